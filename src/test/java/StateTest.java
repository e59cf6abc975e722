/** Promises 18 to 36, ordinary calls: what can be read of cases. */
public final class StateTest {
    public static void main(String[] args) {
        stateAndReplay();
        clockAndReplay();
        replayTellsCasesApart();
        replayBeginsAnew();
        replayBeginsWithDataOfZero();
        count();
        isLateAndDaysLeft();
        holds();
        activeAndIsOver();
        datum();
        daysPlanOfIsWaiting();
        happenedAndRounds();
        daysWorked();
        doneShare();
        Check.end("StateTest");
    }

    /** A task that ends, a milestone that needs an event, a task that is completed, a task. */
    private static CasebookSteps four() {
        CasebookSteps x = Engines.of("tmtt", -1, -1, -1, -1);
        x.addExit(0, 0, 'd', 1, 5);
        x.addEntry(0, 1, 'e', 4, 0);
        return x;
    }

    private static void stateAndReplay() {
        CasebookSteps x = four();
        x.begin(0);
        x.set(0, 1, 5);
        x.complete(0, 2);
        x.set(0, 1, 0);
        String due = "xica";
        for (int i = 0; i < 4; i++) {
            Check.same("state", x.state(0, i), due.charAt(i));
            Check.same("stateByReplay", x.stateByReplay(0, i), due.charAt(i));
            Check.same("stateByReplay once more", x.stateByReplay(0, i), due.charAt(i));
        }
        x.event(0, 4);
        Check.same("state", x.state(0, 1), 'c');
        Check.same("stateByReplay", x.stateByReplay(0, 1), 'c');
        Check.same("a replay is nothing that happens", x.happened(0), 5);
    }

    private static void clockAndReplay() {
        CasebookSteps x = four();
        x.begin(0);
        x.pass(2);
        x.set(0, 1, 5);
        x.pass(1);
        x.setWaiting(0, true);
        x.pass(5);
        x.setWaiting(0, false);
        x.complete(0, 2);
        x.pass(10);
        int[] due = {2, 0, 3, 13};
        for (int i = 0; i < 4; i++) {
            Check.same("clock", x.clock(0, i), due[i]);
            Check.same("clockByReplay", x.clockByReplay(0, i), due[i]);
        }
    }

    private static void replayTellsCasesApart() {
        CasebookSteps x = four();
        x.begin(0);
        x.pass(3);
        x.begin(0);
        x.set(1, 1, 9);
        x.pass(4);
        x.begin(0);
        x.complete(0, 3);
        x.pass(2);
        x.event(2, 4);
        String[] states = {"aiac", "xiaa", "acaa"};
        int[][] clocks = {{9, 0, 9, 7}, {0, 0, 6, 6}, {2, 0, 2, 2}};
        for (int step = 0; step < 4; step++) {
            for (int number = 0; number < 3; number++) {
                Check.same("state", x.state(number, step), states[number].charAt(step));
                Check.same("stateByReplay", x.stateByReplay(number, step), states[number].charAt(step));
                Check.same("clock", x.clock(number, step), clocks[number][step]);
                Check.same("clockByReplay", x.clockByReplay(number, step), clocks[number][step]);
            }
        }
    }

    /** What one case has become must not show in the replay of the next. */
    private static void replayBeginsAnew() {
        CasebookSteps x = four();
        Engines.withPlan(x, "tt", -1, -1);
        x.begin(0);
        x.set(0, 1, 9);
        x.pass(5);
        x.setWaiting(0, true);
        x.begin(1);
        x.pass(1);
        Check.same("clockByReplay of the first", x.clockByReplay(0, 2), 5);
        Check.same("stateByReplay of the first", x.stateByReplay(0, 0), 'x');
        Check.same("clockByReplay of the second", x.clockByReplay(1, 1), 1);
        Check.same("stateByReplay of the second", x.stateByReplay(1, 0), 'a');
        Check.same("clockByReplay of the first", x.clockByReplay(0, 3), 5);
    }

    private static void replayBeginsWithDataOfZero() {
        for (int datum = 0; datum < 4; datum++) {
            CasebookSteps x = Engines.of("m", -1);
            x.addEntry(0, 0, 'd', datum, 1);
            Engines.begun(x, 0, 2);
            x.set(0, datum, 99);
            Check.same("stateByReplay of the first", x.stateByReplay(0, 0), 'c');
            Check.same("stateByReplay of the second, datum " + datum, x.stateByReplay(1, 0), 'i');
            Check.same("stateByReplay of the first", x.stateByReplay(0, 0), 'c');
        }
    }

    private static void count() {
        CasebookSteps x = four();
        x.begin(0);
        Check.same("count of a task that was entered", x.count(0, 0), 1);
        Check.same("count of a milestone that was not", x.count(0, 1), 0);
        x.event(0, 4);
        x.event(0, 5);
        x.event(0, 4);
        Check.same("a milestone that comes once", x.count(0, 1), 1);
        x.complete(0, 2);
        Check.same("count of a completed task", x.count(0, 2), 1);
    }

    private static void isLateAndDaysLeft() {
        CasebookSteps x = Engines.of("ttst", -1, -1, -1, -1);
        x.setLimit(0, 1, 2);
        x.setLimit(0, 3, 1);
        x.addEntry(0, 3, 'e', 0, 0);
        x.begin(0);
        Check.same("daysLeft at first", x.daysLeft(0), 3);
        x.pass(2);
        Check.same("isLate at the limit", x.isLate(0, 1), false);
        Check.same("daysLeft at the limit", x.daysLeft(0), 1);
        x.pass(1);
        Check.same("isLate", x.isLate(0, 1), true);
        Check.same("isLate of the other task", x.isLate(0, 0), false);
        Check.same("isLate of a stage", x.isLate(0, 2), false);
        Check.same("isLate of an idle task", x.isLate(0, 3), false);
        Check.same("daysLeft of the one that is not late", x.daysLeft(0), 8);
        x.complete(0, 1);
        Check.same("isLate of a completed task", x.isLate(0, 1), false);
        Check.same("clock of a completed task", x.clock(0, 1), 3);
        x.setWaiting(0, true);
        x.pass(4);
        Check.same("daysLeft while it waits", x.daysLeft(0), 8);
        x.setWaiting(0, false);
        x.event(0, 0);
        Check.same("daysLeft of a task that began now", x.daysLeft(0), 2);
    }

    private static void holds() {
        CasebookSteps x = Engines.of("stm", -1, 0, -1);
        x.addEntry(0, 0, 'd', 0, -3);
        x.addEntry(0, 0, 'l', 3, 4);
        x.addEntry(0, 0, 'c', 1, 0);
        x.addExit(0, 0, 't', 2, 0);
        x.addExit(0, 1, 'e', 0, 0);
        x.addEntry(0, 2, 't', 0, 0);
        x.begin(0);
        Check.same("d: more", x.holds(0, 0, true, 0), true);
        Check.same("l: less", x.holds(0, 0, true, 1), true);
        Check.same("c: active", x.holds(0, 0, true, 2), false);
        Check.same("t: 0 of 2 days", x.holds(0, 0, false, 0), false);
        Check.same("t: 0 of 0 days", x.holds(0, 2, true, 0), true);
        Check.same("e: no event", x.holds(0, 1, false, 0), false);
        x.set(0, 0, -3);
        Check.same("d: equal", x.holds(0, 0, true, 0), true);
        x.set(0, 0, -4);
        Check.same("d: less", x.holds(0, 0, true, 0), false);
        x.set(0, 3, 3);
        Check.same("l: one less", x.holds(0, 0, true, 1), true);
        x.set(0, 3, 4);
        Check.same("l: equal", x.holds(0, 0, true, 1), false);
        x.setWaiting(0, true);
        x.pass(1);
        Check.same("t: 1 of 2 days", x.holds(0, 0, false, 0), false);
        x.complete(0, 1);
        Check.same("c: completed", x.holds(0, 0, true, 2), true);
        x.pass(1);
        Check.same("t: 2 of 2 days, while it waits", x.holds(0, 0, false, 0), true);
        holdsOfEachDatum();
    }

    private static void holdsOfEachDatum() {
        CasebookSteps x = Engines.of("tt", -1, -1);
        for (int datum = 0; datum < 4; datum++) {
            x.addEntry(0, datum / 2, 'd', datum, 7);
            x.addExit(0, datum / 2, 'l', datum, -7);
        }
        x.begin(0);
        for (int datum = 0; datum < 4; datum++) {
            Check.same("d", x.holds(0, datum / 2, true, datum % 2), false);
            x.set(0, datum, 7);
            Check.same("d", x.holds(0, datum / 2, true, datum % 2), true);
            Check.same("l", x.holds(0, datum / 2, false, datum % 2), false);
            x.set(0, datum, -8);
            Check.same("l", x.holds(0, datum / 2, false, datum % 2), true);
        }
    }

    private static void activeAndIsOver() {
        CasebookSteps x = Engines.of("sttm", -1, 0, -1, -1);
        x.addExit(0, 2, 'e', 3, 0);
        x.addEntry(0, 3, 'd', 0, 1);
        x.begin(0);
        Check.same("active", x.active(0), 3);
        Check.same("isOver", x.isOver(0), false);
        x.event(0, 3);
        Check.same("active", x.active(0), 2);
        x.complete(0, 1);
        Check.same("active", x.active(0), 0);
        Check.same("isOver with an idle milestone", x.isOver(0), false);
        x.set(0, 0, 1);
        Check.same("isOver with completed and ended steps", x.isOver(0), true);
    }

    private static void datum() {
        CasebookSteps x = four();
        x.begin(0);
        for (int i = 0; i < 4; i++) {
            Check.same("datum at first", x.datum(0, i), 0);
            x.set(0, i, 10 * i - 99);
        }
        for (int i = 0; i < 4; i++) {
            Check.same("datum", x.datum(0, i), 10 * i - 99);
        }
    }

    private static void daysPlanOfIsWaiting() {
        CasebookSteps x = four();
        Engines.withPlan(x, "m", -1);
        Check.same("begin", x.begin(1), 0);
        x.pass(7);
        Check.same("begin", x.begin(0), 1);
        x.setWaiting(1, true);
        x.pass(2);
        Check.same("planOf", x.planOf(0), 1);
        Check.same("planOf", x.planOf(1), 0);
        Check.same("days", x.days(0), 9);
        Check.same("days, though it waits", x.days(1), 2);
        Check.same("isWaiting", x.isWaiting(0), false);
        Check.same("isWaiting", x.isWaiting(1), true);
        Check.same("cases", x.cases(), 2);
    }

    private static void happenedAndRounds() {
        CasebookSteps x = Engines.of("mmmt", -1, -1, -1, -1);
        x.addEntry(0, 0, 'c', 1, 0);
        x.addEntry(0, 1, 'c', 2, 0);
        x.addEntry(0, 2, 'e', 5, 0);
        x.begin(0);
        Check.same("rounds of the beginning", x.rounds(0), 1);
        Check.same("happened", x.happened(0), 1);
        x.event(0, 5);
        Check.same("rounds of the event", x.rounds(0), 3);
        x.event(0, 5);
        Check.same("rounds of an event without effect", x.rounds(0), 0);
        x.set(0, 0, 1);
        x.complete(0, 3);
        x.setWaiting(0, true);
        x.move(0, 0);
        x.pass(4);
        Check.same("happened", x.happened(0), 11);
    }

    private static void daysWorked() {
        CasebookSteps x = four();
        x.begin(0);
        x.begin(0);
        x.pass(3);
        Check.same("daysWorked", x.daysWorked(), 18L);
        x.complete(1, 3);
        x.setWaiting(0, true);
        x.pass(2);
        Check.same("daysWorked", x.daysWorked(), 22L);
    }

    private static void doneShare() {
        CasebookSteps x = new CasebookSteps();
        x.addPlan();
        for (int i = 0; i < 7; i++) {
            x.addStep(0, 't', -1);
        }
        x.addExit(0, 6, 'e', 0, 0);
        x.begin(0);
        for (int i = 0; i < 6; i++) {
            Check.same("doneShare", x.doneShare(0), (float) i / 7.0f);
            x.complete(0, i);
        }
        x.event(0, 0);
        Check.same("an ended step is not completed", x.doneShare(0), 6.0f / 7.0f);
        CasebookSteps y = Engines.of("m", -1);
        y.begin(0);
        Check.same("doneShare of all", y.doneShare(0), 1.0f);
    }
}
