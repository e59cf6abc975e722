/** What the document's terms say of rounds, of stages and of the order of the rules. */
public final class RoundsTest {
    public static void main(String[] args) {
        laterStepsSeeEarlierOnes();
        exitComesBeforeCompletion();
        exitWaitsForTheNextRound();
        anyConditionIsEnough();
        parentsMustBeActive();
        stagesWithoutChildrenStay();
        stagesWaitForActiveChildren();
        requiredAndOtherTasks();
        endingGoesDown();
        completedChildrenStay();
        endingStopsAtStepsThatAreOver();
        milestonesComeAgain();
        milestonesInStagesThatAreOverFallBack();
        fallingBackIsAChange();
        activeMilestonesStay();
        twentyRoundsAtMost();
        longChains();
        Check.end("RoundsTest");
    }

    private static CasebookSteps plan(String kinds, int... parents) {
        CasebookSteps x = new CasebookSteps();
        addPlan(x, kinds, parents);
        return x;
    }

    private static void addPlan(CasebookSteps x, String kinds, int... parents) {
        int plan = x.addPlan();
        for (int i = 0; i < kinds.length(); i++) {
            x.addStep(plan, kinds.charAt(i), parents[i]);
        }
    }

    private static void laterStepsSeeEarlierOnes() {
        CasebookSteps x = plan("mmm", -1, -1, -1);
        x.addEntry(0, 1, 'c', 0, 0);
        x.addEntry(0, 2, 'c', 1, 0);
        x.begin(0);
        Check.same("a chain of rising numbers", Check.states(x, 0), "ccc");
        Check.same("rounds", x.rounds(0), 1);
        CasebookSteps y = plan("mmm", -1, -1, -1);
        y.addEntry(0, 0, 'c', 1, 0);
        y.addEntry(0, 1, 'c', 2, 0);
        y.begin(0);
        Check.same("a chain of falling numbers", Check.states(y, 0), "ccc");
        Check.same("rounds", y.rounds(0), 3);
    }

    private static void exitComesBeforeCompletion() {
        CasebookSteps x = plan("sm", -1, 0);
        x.addExit(0, 0, 'c', 1, 0);
        x.begin(0);
        Check.same("a stage that could end or be completed", Check.states(x, 0), "xc");
        Check.same("rounds", x.rounds(0), 2);
    }

    private static void exitWaitsForTheNextRound() {
        CasebookSteps x = plan("t", -1);
        x.addExit(0, 0, 't', 0, 0);
        x.begin(0);
        Check.same("entered, then ended", Check.states(x, 0), "x");
        Check.same("count", x.count(0, 0), 1);
        Check.same("rounds", x.rounds(0), 2);
    }

    private static void anyConditionIsEnough() {
        CasebookSteps x = plan("tt", -1, -1);
        x.addEntry(0, 0, 'd', 0, 1);
        x.addEntry(0, 0, 'd', 1, 1);
        x.addEntry(0, 0, 'd', 2, 1);
        x.addExit(0, 1, 'd', 0, 1);
        x.addExit(0, 1, 'd', 1, 1);
        x.addExit(0, 1, 'd', 2, 1);
        for (int datum = 0; datum < 4; datum++) {
            int number = x.begin(0);
            Check.same("none holds", Check.states(x, number), "ia");
            x.set(number, datum, 1);
            Check.same("one holds", Check.states(x, number), datum < 3 ? "ax" : "ia");
        }
    }

    private static void parentsMustBeActive() {
        CasebookSteps x = plan("stm", -1, 0, 0);
        x.addEntry(0, 0, 'e', 1, 0);
        x.addEntry(0, 2, 'd', 0, 1);
        x.begin(0);
        Check.same("an idle parent", Check.states(x, 0), "iii");
        Check.same("rounds", x.rounds(0), 0);
        x.set(0, 0, 1);
        Check.same("a condition alone", Check.states(x, 0), "iii");
        Check.same("event", x.event(0, 1), 3);
        Check.same("an active parent", Check.states(x, 0), "aac");
    }

    private static void stagesWithoutChildrenStay() {
        CasebookSteps x = plan("ss", -1, -1);
        x.addExit(0, 1, 'e', 0, 0);
        x.begin(0);
        Check.same("stages without children", Check.states(x, 0), "aa");
        x.event(0, 0);
        Check.same("an exit condition", Check.states(x, 0), "ax");
    }

    private static void stagesWaitForActiveChildren() {
        CasebookSteps x = plan("stts", -1, 0, 0, 0);
        x.setRequired(0, 1, false);
        x.addExit(0, 3, 'e', 0, 0);
        x.begin(0);
        x.complete(0, 2);
        Check.same("an active stage in it", Check.states(x, 0), "aaca");
        x.event(0, 0);
        Check.same("an active task that is not required", Check.states(x, 0), "aacx");
        x.complete(0, 1);
        Check.same("all completed or ended", Check.states(x, 0), "cccx");
    }

    private static void requiredAndOtherTasks() {
        CasebookSteps x = plan("stt", -1, 0, 0);
        x.addEntry(0, 2, 'e', 0, 0);
        x.begin(0);
        x.complete(0, 1);
        Check.same("a required task is idle", Check.states(x, 0), "aci");
        CasebookSteps y = plan("stt", -1, 0, 0);
        y.addEntry(0, 2, 'e', 0, 0);
        y.setRequired(0, 2, false);
        y.begin(0);
        y.complete(0, 1);
        Check.same("a task that is not required is idle", Check.states(y, 0), "ccx");
        CasebookSteps z = plan("stm", -1, 0, 0);
        z.addEntry(0, 2, 'e', 0, 0);
        z.begin(0);
        z.complete(0, 1);
        Check.same("a milestone is idle", Check.states(z, 0), "aci");
        CasebookSteps w = plan("sts", -1, 0, 0);
        w.addEntry(0, 2, 'e', 0, 0);
        w.begin(0);
        w.complete(0, 1);
        Check.same("a stage is idle", Check.states(w, 0), "aci");
    }

    private static void endingGoesDown() {
        CasebookSteps x = plan("ssttmtst", -1, 0, 1, 1, 1, -1, 0, 6);
        x.addEntry(0, 3, 'e', 1, 0);
        x.addEntry(0, 4, 'e', 1, 0);
        x.addEntry(0, 6, 'e', 1, 0);
        x.addExit(0, 0, 'e', 2, 0);
        x.begin(0);
        Check.same("before the end", Check.states(x, 0), "aaaiiaii");
        Check.same("event", x.event(0, 2), 7);
        Check.same("all below it, idle or active", Check.states(x, 0), "xxxxxaxx");
        Check.same("rounds", x.rounds(0), 1);
    }

    private static void completedChildrenStay() {
        CasebookSteps x = plan("stsm", -1, 0, 0, 2);
        x.addExit(0, 0, 'e', 2, 0);
        x.begin(0);
        x.complete(0, 1);
        Check.same("all are completed", Check.states(x, 0), "cccc");
        CasebookSteps y = plan("sttm", -1, 0, 0, 0);
        y.addExit(0, 0, 'e', 2, 0);
        y.begin(0);
        y.complete(0, 1);
        Check.same("event", y.event(0, 2), 2);
        Check.same("completed ones stay", Check.states(y, 0), "xcxc");
    }

    /** A stage that was completed before its plan gave it an idle child does not hand an end down to it. */
    private static void endingStopsAtStepsThatAreOver() {
        CasebookSteps x = plan("ttm", -1, -1, -1);
        x.addEntry(0, 2, 'd', 0, 1);
        addPlan(x, "ssmt", -1, 0, 0, 1);
        x.addEntry(1, 2, 'd', 0, 1);
        x.addExit(1, 0, 'e', 7, 0);
        x.begin(0);
        x.complete(0, 1);
        x.move(0, 1);
        Check.same("moved", Check.states(x, 0), "acii");
        Check.same("event", x.event(0, 7), 2);
        Check.same("an end stops at a completed stage", Check.states(x, 0), "xcxi");

        CasebookSteps y = plan("tt", -1, -1);
        addPlan(y, "sst", -1, 0, 1);
        y.begin(0);
        y.complete(0, 1);
        y.move(0, 1);
        Check.same("the outer stage is completed at once", Check.states(y, 0), "cci");
        Check.same("rounds", y.rounds(0), 1);
    }

    private static void milestonesComeAgain() {
        CasebookSteps x = plan("mmm", -1, -1, -1);
        x.setAgain(0, 0, true);
        x.setAgain(0, 2, true);
        x.addEntry(0, 0, 'd', 0, 1);
        x.addEntry(0, 0, 'd', 1, 1);
        x.addEntry(0, 1, 'd', 0, 1);
        x.begin(0);
        Check.same("at first", Check.states(x, 0), "iic");
        x.set(0, 0, 1);
        Check.same("entered", Check.states(x, 0), "ccc");
        x.set(0, 1, 1);
        x.set(0, 0, 0);
        Check.same("another condition holds", Check.states(x, 0), "ccc");
        x.set(0, 1, 0);
        Check.same("none holds", Check.states(x, 0), "icc");
        x.set(0, 1, 1);
        Check.same("entered again", Check.states(x, 0), "ccc");
        Check.same("count", x.count(0, 0), 2);
        Check.same("count of one without conditions", x.count(0, 2), 1);
    }

    private static void fallingBackIsAChange() {
        CasebookSteps x = plan("mm", -1, -1);
        x.setAgain(0, 0, true);
        x.setAgain(0, 1, true);
        x.addEntry(0, 0, 'c', 1, 0);
        x.addEntry(0, 1, 'd', 0, 1);
        x.begin(0);
        x.set(0, 0, 1);
        Check.same("both completed", Check.states(x, 0), "cc");
        Check.same("rounds", x.rounds(0), 2);
        x.set(0, 0, 0);
        Check.same("the one falls back after the other", Check.states(x, 0), "ii");
        Check.same("rounds", x.rounds(0), 2);
    }

    private static void milestonesInStagesThatAreOverFallBack() {
        CasebookSteps x = plan("sm", -1, 0);
        x.setAgain(0, 1, true);
        x.addEntry(0, 1, 'd', 0, 1);
        x.begin(0);
        x.set(0, 0, 1);
        Check.same("both completed", Check.states(x, 0), "cc");
        x.set(0, 0, 0);
        Check.same("idle in a completed stage", Check.states(x, 0), "ci");
        x.set(0, 0, 1);
        Check.same("not entered any more", Check.states(x, 0), "ci");
    }

    private static void activeMilestonesStay() {
        CasebookSteps x = plan("t", -1);
        addPlan(x, "m", -1);
        x.setAgain(1, 0, true);
        x.addEntry(1, 0, 'd', 0, 1);
        x.begin(0);
        x.move(0, 1);
        x.pass(2);
        Check.same("an active milestone", Check.states(x, 0), "a");
        Check.same("active", x.active(0), 1);
        Check.same("its clock stands", x.clock(0, 0), 0);
        Check.same("isLate", x.isLate(0, 0), false);
    }

    /** Three milestones that go round for ever, once they have begun to. */
    private static CasebookSteps ring(int begun) {
        CasebookSteps x = plan("mmm", -1, -1, -1);
        for (int i = 0; i < 3; i++) {
            if (i != begun) {
                x.addEntry(0, i, 'd', 3, 99);
            }
        }
        addPlan(x, "mmm", -1, -1, -1);
        for (int i = 0; i < 3; i++) {
            x.setAgain(1, i, true);
            x.addEntry(1, i, 'c', (i + 1) % 3, 0);
        }
        x.begin(0);
        return x;
    }

    private static void twentyRoundsAtMost() {
        CasebookSteps x = ring(2);
        Check.same("before", Check.states(x, 0), "iic");
        x.move(0, 1);
        Check.same("rounds of the move", x.rounds(0), 20);
        Check.same("count", x.count(0, 0), 10);
        String once = Check.states(x, 0);
        Check.same("after 20 rounds", once, "cic");
        for (int i = 0; i < 3; i++) {
            Check.same("stateByReplay", x.stateByReplay(0, i), once.charAt(i));
        }
        Check.same("20 rounds more change nothing in the end", x.event(0, 0), 0);
        Check.same("rounds of the event", x.rounds(0), 20);
        Check.same("count", x.count(0, 0), 20);
    }

    private static void longChains() {
        CasebookSteps x = plan("mmmmmmmm", -1, -1, -1, -1, -1, -1, -1, -1);
        for (int i = 0; i < 7; i++) {
            x.addEntry(0, i, 'c', i + 1, 0);
        }
        x.begin(0);
        Check.same("rounds of a long chain", x.rounds(0), 8);
    }
}
