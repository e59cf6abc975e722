/** Promises 18 to 36: what can be read of cases. */
public final class StateTest {
    private static final Class<?> INDEX = IndexOutOfBoundsException.class;
    private static final Class<?> ARGUMENT = IllegalArgumentException.class;
    private static final Class<?> NO_ELEMENT = java.util.NoSuchElementException.class;
    private static final int[] NO_NUMBERS = {-1, 1, 2, 4, 8, Integer.MIN_VALUE, Integer.MAX_VALUE};

    public static void main(String[] args) {
        noSuchCaseOrStep();
        stateAndReplay();
        clockAndReplay();
        replayTellsCasesApart();
        replayBeginsAnew();
        replayOfLongRuns();
        count();
        isLateAndDaysLeft();
        holds();
        activeAndIsOver();
        datum();
        daysPlanOfIsWaiting();
        happenedAndRounds();
        daysWorked();
        doneShare();
        Check.end("StateTest");
    }

    private static void noSuchCaseOrStep() {
        CasebookSteps x = new CasebookSteps();
        x.addPlan();
        x.addStep(0, 't', -1);
        x.addPlan();
        x.addStep(1, 't', -1);
        x.addStep(1, 't', -1);
        x.begin(0);
        for (int n : NO_NUMBERS) {
            readersOfStepsRefuse(x, n, 0);
            readersOfStepsRefuse(x, 0, n);
            Check.refused(x, "daysLeft", INDEX, () -> x.daysLeft(n));
            Check.refused(x, "active", INDEX, () -> x.active(n));
            Check.refused(x, "isOver", INDEX, () -> x.isOver(n));
            Check.refused(x, "rounds", INDEX, () -> x.rounds(n));
            Check.refused(x, "datum", INDEX, () -> x.datum(n, 4));
            Check.refused(x, "days", INDEX, () -> x.days(n));
            Check.refused(x, "planOf", INDEX, () -> x.planOf(n));
            Check.refused(x, "isWaiting", INDEX, () -> x.isWaiting(n));
            Check.refused(x, "happened", INDEX, () -> x.happened(n));
            Check.refused(x, "doneShare", INDEX, () -> x.doneShare(n));
        }
        x.move(0, 1);
        Check.same("state of a step of the new plan", x.state(0, 1), 'a');
    }

    private static void readersOfStepsRefuse(CasebookSteps x, int number, int step) {
        Check.refused(x, "state", INDEX, () -> x.state(number, step));
        Check.refused(x, "stateByReplay", INDEX, () -> x.stateByReplay(number, step));
        Check.refused(x, "clock", INDEX, () -> x.clock(number, step));
        Check.refused(x, "clockByReplay", INDEX, () -> x.clockByReplay(number, step));
        Check.refused(x, "count", INDEX, () -> x.count(number, step));
        Check.refused(x, "isLate", INDEX, () -> x.isLate(number, step));
        Check.refused(x, "holds", INDEX, () -> x.holds(number, step, true, -1));
    }

    /** A task that ends, a milestone that needs an event, a task that is completed, a task. */
    private static CasebookSteps four() {
        CasebookSteps x = new CasebookSteps();
        x.addPlan();
        x.addStep(0, 't', -1);
        x.addStep(0, 'm', -1);
        x.addStep(0, 't', -1);
        x.addStep(0, 't', -1);
        x.addExit(0, 0, 'd', 1, 5);
        x.addEntry(0, 1, 'e', 4, 0);
        return x;
    }

    private static void stateAndReplay() {
        CasebookSteps x = four();
        x.begin(0);
        x.set(0, 1, 5);
        x.complete(0, 2);
        x.set(0, 1, 0);
        String due = "xica";
        for (int i = 0; i < 4; i++) {
            Check.same("state", x.state(0, i), due.charAt(i));
            Check.same("stateByReplay", x.stateByReplay(0, i), due.charAt(i));
            Check.same("stateByReplay once more", x.stateByReplay(0, i), due.charAt(i));
        }
        x.event(0, 4);
        Check.same("state", x.state(0, 1), 'c');
        Check.same("stateByReplay", x.stateByReplay(0, 1), 'c');
        Check.same("a replay is nothing that happens", x.happened(0), 5);
    }

    private static void clockAndReplay() {
        CasebookSteps x = four();
        x.begin(0);
        x.pass(2);
        x.set(0, 1, 5);
        x.pass(1);
        x.setWaiting(0, true);
        x.pass(5);
        x.setWaiting(0, false);
        x.complete(0, 2);
        x.pass(10);
        int[] due = {2, 0, 3, 13};
        for (int i = 0; i < 4; i++) {
            Check.same("clock", x.clock(0, i), due[i]);
            Check.same("clockByReplay", x.clockByReplay(0, i), due[i]);
        }
    }

    private static void replayTellsCasesApart() {
        CasebookSteps x = four();
        x.begin(0);
        x.pass(3);
        x.begin(0);
        x.set(1, 1, 9);
        x.pass(4);
        x.begin(0);
        x.complete(0, 3);
        x.pass(2);
        x.event(2, 4);
        String[] states = {"aiac", "xiaa", "acaa"};
        int[][] clocks = {{9, 0, 9, 7}, {0, 0, 6, 6}, {2, 0, 2, 2}};
        for (int step = 0; step < 4; step++) {
            for (int number = 0; number < 3; number++) {
                Check.same("state", x.state(number, step), states[number].charAt(step));
                Check.same("stateByReplay", x.stateByReplay(number, step), states[number].charAt(step));
                Check.same("clock", x.clock(number, step), clocks[number][step]);
                Check.same("clockByReplay", x.clockByReplay(number, step), clocks[number][step]);
            }
        }
    }

    /** What one case has become must not show in the replay of the next. */
    private static void replayBeginsAnew() {
        CasebookSteps x = four();
        x.addPlan();
        x.addStep(1, 't', -1);
        x.addStep(1, 't', -1);
        x.begin(0);
        x.set(0, 1, 9);
        x.pass(5);
        x.setWaiting(0, true);
        x.begin(1);
        x.pass(1);
        Check.same("clockByReplay of the first", x.clockByReplay(0, 2), 5);
        Check.same("stateByReplay of the first", x.stateByReplay(0, 0), 'x');
        Check.same("clockByReplay of the second", x.clockByReplay(1, 1), 1);
        Check.same("stateByReplay of the second", x.stateByReplay(1, 0), 'a');
        Check.same("clockByReplay of the first", x.clockByReplay(0, 3), 5);
    }

    /** As many things as the 512 calls of an object can let happen. */
    private static void replayOfLongRuns() {
        CasebookSteps x = new CasebookSteps();
        x.addPlan();
        x.addStep(0, 't', -1);
        x.addStep(0, 't', -1);
        x.addEntry(0, 1, 't', 999, 0);
        x.begin(0);
        for (int i = 0; i < 500; i++) {
            x.pass(10);
        }
        Check.same("days", x.days(0), 5000);
        Check.same("happened", x.happened(0), 5001);
        Check.same("clock", x.clock(0, 0), 5000);
        Check.same("clockByReplay", x.clockByReplay(0, 0), 5000);
        Check.same("clock", x.clock(0, 1), 4001);
        Check.same("clockByReplay", x.clockByReplay(0, 1), 4001);
        Check.same("daysWorked", x.daysWorked(), 9001L);
        Check.same("the 512th call", x.stateByReplay(0, 1), 'a');
    }

    private static void count() {
        CasebookSteps x = four();
        x.begin(0);
        Check.same("count of a task that was entered", x.count(0, 0), 1);
        Check.same("count of a milestone that was not", x.count(0, 1), 0);
        x.event(0, 4);
        x.event(0, 5);
        x.event(0, 4);
        Check.same("a milestone that comes once", x.count(0, 1), 1);
        x.complete(0, 2);
        Check.same("count of a completed task", x.count(0, 2), 1);
    }

    private static void isLateAndDaysLeft() {
        CasebookSteps x = new CasebookSteps();
        x.addPlan();
        x.addStep(0, 't', -1);
        x.addStep(0, 't', -1);
        x.addStep(0, 's', -1);
        x.addStep(0, 't', -1);
        x.setLimit(0, 1, 2);
        x.setLimit(0, 3, 1);
        x.addEntry(0, 3, 'e', 0, 0);
        x.begin(0);
        Check.same("daysLeft at first", x.daysLeft(0), 3);
        x.pass(2);
        Check.same("isLate at the limit", x.isLate(0, 1), false);
        Check.same("daysLeft at the limit", x.daysLeft(0), 1);
        x.pass(1);
        Check.same("isLate", x.isLate(0, 1), true);
        Check.same("isLate of the other task", x.isLate(0, 0), false);
        Check.same("isLate of a stage", x.isLate(0, 2), false);
        Check.same("isLate of an idle task", x.isLate(0, 3), false);
        Check.same("daysLeft of the one that is not late", x.daysLeft(0), 8);
        x.complete(0, 1);
        Check.same("isLate of a completed task", x.isLate(0, 1), false);
        Check.same("clock of a completed task", x.clock(0, 1), 3);
        x.setWaiting(0, true);
        x.pass(4);
        Check.same("daysLeft while it waits", x.daysLeft(0), 8);
        x.setWaiting(0, false);
        x.event(0, 0);
        Check.same("daysLeft of a task that began now", x.daysLeft(0), 2);
        x.pass(10);
        Check.refused(x, "daysLeft when all are late", NO_ELEMENT, () -> x.daysLeft(0));
        x.complete(0, 0);
        x.complete(0, 3);
        Check.refused(x, "daysLeft when none is active", NO_ELEMENT, () -> x.daysLeft(0));
    }

    private static void holds() {
        CasebookSteps x = new CasebookSteps();
        x.addPlan();
        x.addStep(0, 's', -1);
        x.addStep(0, 't', 0);
        x.addStep(0, 'm', -1);
        x.addEntry(0, 0, 'd', 0, -3);
        x.addEntry(0, 0, 'l', 3, 4);
        x.addEntry(0, 0, 'c', 1, 0);
        x.addExit(0, 0, 't', 2, 0);
        x.addExit(0, 1, 'e', 0, 0);
        x.addEntry(0, 2, 't', 0, 0);
        x.begin(0);
        Check.same("d: more", x.holds(0, 0, true, 0), true);
        Check.same("l: less", x.holds(0, 0, true, 1), true);
        Check.same("c: active", x.holds(0, 0, true, 2), false);
        Check.same("t: 0 of 2 days", x.holds(0, 0, false, 0), false);
        Check.same("t: 0 of 0 days", x.holds(0, 2, true, 0), true);
        Check.same("e: no event", x.holds(0, 1, false, 0), false);
        x.set(0, 0, -3);
        Check.same("d: equal", x.holds(0, 0, true, 0), true);
        x.set(0, 0, -4);
        Check.same("d: less", x.holds(0, 0, true, 0), false);
        x.set(0, 3, 3);
        Check.same("l: one less", x.holds(0, 0, true, 1), true);
        x.set(0, 3, 4);
        Check.same("l: equal", x.holds(0, 0, true, 1), false);
        x.setWaiting(0, true);
        x.pass(1);
        Check.same("t: 1 of 2 days", x.holds(0, 0, false, 0), false);
        x.complete(0, 1);
        Check.same("c: completed", x.holds(0, 0, true, 2), true);
        x.pass(1);
        Check.same("t: 2 of 2 days, while it waits", x.holds(0, 0, false, 0), true);
        holdsOfEachDatum();
        for (int index : new int[] {-1, 3, 4, Integer.MIN_VALUE, Integer.MAX_VALUE}) {
            Check.refused(x, "no such entry condition", NO_ELEMENT, () -> x.holds(0, 0, true, index));
        }
        Check.refused(x, "no such exit condition", NO_ELEMENT, () -> x.holds(0, 0, false, 1));
        Check.refused(x, "no entry condition", NO_ELEMENT, () -> x.holds(0, 1, true, 0));
        Check.refused(x, "no exit condition of a milestone", NO_ELEMENT, () -> x.holds(0, 2, false, 0));
        Check.refused(x, "no such step, no such condition", INDEX, () -> x.holds(0, 3, false, 3));
    }

    private static void holdsOfEachDatum() {
        CasebookSteps x = new CasebookSteps();
        x.addPlan();
        x.addStep(0, 't', -1);
        x.addStep(0, 't', -1);
        for (int datum = 0; datum < 4; datum++) {
            x.addEntry(0, datum / 2, 'd', datum, 7);
            x.addExit(0, datum / 2, 'l', datum, -7);
        }
        x.begin(0);
        for (int datum = 0; datum < 4; datum++) {
            Check.same("d", x.holds(0, datum / 2, true, datum % 2), false);
            x.set(0, datum, 7);
            Check.same("d", x.holds(0, datum / 2, true, datum % 2), true);
            Check.same("l", x.holds(0, datum / 2, false, datum % 2), false);
            x.set(0, datum, -8);
            Check.same("l", x.holds(0, datum / 2, false, datum % 2), true);
        }
    }

    private static void activeAndIsOver() {
        CasebookSteps x = new CasebookSteps();
        x.addPlan();
        x.addStep(0, 's', -1);
        x.addStep(0, 't', 0);
        x.addStep(0, 't', -1);
        x.addStep(0, 'm', -1);
        x.addExit(0, 2, 'e', 3, 0);
        x.addEntry(0, 3, 'd', 0, 1);
        x.begin(0);
        Check.same("active", x.active(0), 3);
        Check.same("isOver", x.isOver(0), false);
        x.event(0, 3);
        Check.same("active", x.active(0), 2);
        x.complete(0, 1);
        Check.same("active", x.active(0), 0);
        Check.same("isOver with an idle milestone", x.isOver(0), false);
        x.set(0, 0, 1);
        Check.same("isOver with completed and ended steps", x.isOver(0), true);
    }

    private static void datum() {
        CasebookSteps x = four();
        x.begin(0);
        for (int i = 0; i < 4; i++) {
            Check.same("datum at first", x.datum(0, i), 0);
            x.set(0, i, 10 * i - 99);
        }
        for (int i = 0; i < 4; i++) {
            Check.same("datum", x.datum(0, i), 10 * i - 99);
        }
        for (int i : new int[] {-1, 4, Integer.MIN_VALUE, Integer.MAX_VALUE}) {
            Check.refused(x, "no such datum", ARGUMENT, () -> x.datum(0, i));
        }
    }

    private static void daysPlanOfIsWaiting() {
        CasebookSteps x = four();
        x.addPlan();
        x.addStep(1, 'm', -1);
        Check.same("begin", x.begin(1), 0);
        x.pass(7);
        Check.same("begin", x.begin(0), 1);
        x.setWaiting(1, true);
        x.pass(2);
        Check.same("planOf", x.planOf(0), 1);
        Check.same("planOf", x.planOf(1), 0);
        Check.same("days", x.days(0), 9);
        Check.same("days, though it waits", x.days(1), 2);
        Check.same("isWaiting", x.isWaiting(0), false);
        Check.same("isWaiting", x.isWaiting(1), true);
        Check.same("cases", x.cases(), 2);
    }

    private static void happenedAndRounds() {
        CasebookSteps x = new CasebookSteps();
        x.addPlan();
        x.addStep(0, 'm', -1);
        x.addStep(0, 'm', -1);
        x.addStep(0, 'm', -1);
        x.addStep(0, 't', -1);
        x.addEntry(0, 0, 'c', 1, 0);
        x.addEntry(0, 1, 'c', 2, 0);
        x.addEntry(0, 2, 'e', 5, 0);
        x.begin(0);
        Check.same("rounds of the beginning", x.rounds(0), 1);
        Check.same("happened", x.happened(0), 1);
        x.event(0, 5);
        Check.same("rounds of the event", x.rounds(0), 3);
        x.event(0, 5);
        Check.same("rounds of an event without effect", x.rounds(0), 0);
        x.set(0, 0, 1);
        x.complete(0, 3);
        x.setWaiting(0, true);
        x.move(0, 0);
        x.pass(4);
        Check.same("happened", x.happened(0), 11);
    }

    private static void daysWorked() {
        CasebookSteps x = four();
        x.begin(0);
        x.begin(0);
        x.pass(3);
        Check.same("daysWorked", x.daysWorked(), 18L);
        x.complete(1, 3);
        x.setWaiting(0, true);
        x.pass(2);
        Check.same("daysWorked", x.daysWorked(), 22L);
    }

    private static void doneShare() {
        CasebookSteps x = new CasebookSteps();
        x.addPlan();
        for (int i = 0; i < 7; i++) {
            x.addStep(0, 't', -1);
        }
        x.addExit(0, 6, 'e', 0, 0);
        x.begin(0);
        for (int i = 0; i < 6; i++) {
            Check.same("doneShare", x.doneShare(0), (float) i / 7.0f);
            x.complete(0, i);
        }
        x.event(0, 0);
        Check.same("an ended step is not completed", x.doneShare(0), 6.0f / 7.0f);
        CasebookSteps y = new CasebookSteps();
        y.addPlan();
        y.addStep(0, 'm', -1);
        y.begin(0);
        Check.same("doneShare of all", y.doneShare(0), 1.0f);
    }
}
