/** Rounds and moves in which several of the rules meet. */
public final class RoundsTest {
    public static void main(String[] args) {
        endingGoesDown();
        endingStopsAtStepsThatAreOver();
        endingStopsAtStagesThatWereCompleted();
        milestonesInStagesThatAreOverFallBack();
        milestonesInEndedStages();
        fallingBackIsAChange();
        activeMilestonesStay();
        Check.end("RoundsTest");
    }

    private static void endingGoesDown() {
        CasebookSteps x = Engines.of("ssttmtst", -1, 0, 1, 1, 1, -1, 0, 6);
        x.addEntry(0, 3, 'e', 1, 0);
        x.addEntry(0, 4, 'e', 1, 0);
        x.addEntry(0, 6, 'e', 1, 0);
        x.addExit(0, 0, 'e', 2, 0);
        x.begin(0);
        Check.same("before the end", Check.states(x, 0), "aaaiiaii");
        Check.same("event", x.event(0, 2), 7);
        Check.same("all below it, idle or active", Check.states(x, 0), "xxxxxaxx");
        Check.same("rounds", x.rounds(0), 1);
    }

    /** A stage that was completed before its plan gave it an idle child does not hand an end down to it. */
    private static void endingStopsAtStepsThatAreOver() {
        CasebookSteps x = Engines.of("ttm", -1, -1, -1);
        x.addEntry(0, 2, 'd', 0, 1);
        Engines.withPlan(x, "ssmt", -1, 0, 0, 1);
        x.addEntry(1, 2, 'd', 0, 1);
        x.addExit(1, 0, 'e', 7, 0);
        x.begin(0);
        x.complete(0, 1);
        x.move(0, 1);
        Check.same("moved", Check.states(x, 0), "acii");
        Check.same("event", x.event(0, 7), 2);
        Check.same("an end stops at a completed stage", Check.states(x, 0), "xcxi");

        CasebookSteps y = Engines.of("tt", -1, -1);
        Engines.withPlan(y, "sst", -1, 0, 1);
        y.begin(0);
        y.complete(0, 1);
        y.move(0, 1);
        Check.same("the outer stage is completed at once", Check.states(y, 0), "cci");
        Check.same("rounds", y.rounds(0), 1);
    }

    /** In an outer stage: a stage with a milestone that came and fell back, and a task. */
    private static CasebookSteps completedInside() {
        CasebookSteps x = Engines.of("ssmt", -1, 0, 1, 0);
        x.setAgain(0, 2, true);
        x.addEntry(0, 2, 'd', 0, 1);
        x.addExit(0, 0, 'e', 7, 0);
        x.begin(0);
        x.set(0, 0, 1);
        x.set(0, 0, 0);
        Check.same("idle in a completed stage", Check.states(x, 0), "acia");
        return x;
    }

    private static void endingStopsAtStagesThatWereCompleted() {
        CasebookSteps ended = completedInside();
        Check.same("the outer stage ends, and its task with it", ended.event(0, 7), 2);
        Check.same("the completed stage hands nothing down", Check.states(ended, 0), "xcix");
        CasebookSteps completed = completedInside();
        Check.same("the outer stage is completed", completed.complete(0, 3), 1);
        Check.same("the completed stage hands nothing down", Check.states(completed, 0), "ccic");
    }

    /** One milestone came before its stage ended, the other did not. */
    private static void milestonesInEndedStages() {
        CasebookSteps x = Engines.of("smm", -1, 0, 0);
        x.addExit(0, 0, 'e', 7, 0);
        for (int step = 1; step <= 2; step++) {
            x.setAgain(0, step, true);
            x.addEntry(0, step, 'd', step, 1);
        }
        x.begin(0);
        x.set(0, 1, 1);
        Check.same("event", x.event(0, 7), 2);
        Check.same("ended", Check.states(x, 0), "xcx");
        x.set(0, 2, 1);
        Check.same("an ended milestone is not entered", Check.states(x, 0), "xcx");
        x.set(0, 2, 0);
        Check.same("nor does it fall back", Check.states(x, 0), "xcx");
        x.set(0, 1, 0);
        Check.same("a completed one falls back", Check.states(x, 0), "xix");
        x.set(0, 1, 1);
        Check.same("and is not entered, as its parent is ended", Check.states(x, 0), "xix");
        Check.same("count", x.count(0, 1), 1);
    }

    private static void fallingBackIsAChange() {
        CasebookSteps x = Engines.of("mm", -1, -1);
        x.setAgain(0, 0, true);
        x.setAgain(0, 1, true);
        x.addEntry(0, 0, 'c', 1, 0);
        x.addEntry(0, 1, 'd', 0, 1);
        x.begin(0);
        x.set(0, 0, 1);
        Check.same("both completed", Check.states(x, 0), "cc");
        Check.same("rounds", x.rounds(0), 2);
        x.set(0, 0, 0);
        Check.same("the one falls back after the other", Check.states(x, 0), "ii");
        Check.same("rounds", x.rounds(0), 2);
    }

    private static void milestonesInStagesThatAreOverFallBack() {
        CasebookSteps x = Engines.of("sm", -1, 0);
        x.setAgain(0, 1, true);
        x.addEntry(0, 1, 'd', 0, 1);
        x.begin(0);
        x.set(0, 0, 1);
        Check.same("both completed", Check.states(x, 0), "cc");
        x.set(0, 0, 0);
        Check.same("idle in a completed stage", Check.states(x, 0), "ci");
        x.set(0, 0, 1);
        Check.same("not entered any more", Check.states(x, 0), "ci");
    }

    private static void activeMilestonesStay() {
        CasebookSteps x = Engines.of("t", -1);
        Engines.withPlan(x, "m", -1);
        x.setAgain(1, 0, true);
        x.addEntry(1, 0, 'd', 0, 1);
        x.begin(0);
        x.move(0, 1);
        x.pass(2);
        Check.same("an active milestone", Check.states(x, 0), "a");
        Check.same("active", x.active(0), 1);
        Check.same("its clock stands", x.clock(0, 0), 0);
        Check.same("isLate", x.isLate(0, 0), false);
    }
}
