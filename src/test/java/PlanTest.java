/** Promises 1 to 10, ordinary calls: plans. */
public final class PlanTest {
    public static void main(String[] args) {
        addPlan();
        addStep();
        setRequired();
        setLimit();
        setAgain();
        Check.end("PlanTest");
    }

    private static void addPlan() {
        CasebookSteps x = new CasebookSteps();
        for (int i = 0; i < 3; i++) {
            Check.same("addPlan", x.addPlan(), i);
            Check.same("steps of a new plan", x.steps(i), 0);
            Check.same("isUsed of a new plan", x.isUsed(i), false);
        }
    }

    private static void addStep() {
        CasebookSteps x = new CasebookSteps();
        x.addPlan();
        x.addPlan();
        int[] parents = {-1, 0, 0, 1, -1, 4, 1, -1};
        String kinds = "sstmstmm";
        for (int i = 0; i < 8; i++) {
            Check.same("addStep", x.addStep(0, kinds.charAt(i), parents[i]), i);
            Check.same("steps", x.steps(0), i + 1);
        }
        Check.same("steps of the other plan", x.steps(1), 0);
        Check.same("the first step of the other plan", x.addStep(1, 'm', -1), 0);
    }

    private static void setRequired() {
        CasebookSteps x = Engines.small();
        Check.same("setRequired at first", x.setRequired(0, 1, true), true);
        Check.same("setRequired", x.setRequired(0, 1, false), true);
        Check.same("setRequired after false", x.setRequired(0, 1, false), false);
        Check.same("setRequired after false", x.setRequired(0, 1, true), false);
    }

    private static void setLimit() {
        CasebookSteps x = Engines.small();
        Check.same("setLimit at first", x.setLimit(0, 1, 1), 10);
        Check.same("setLimit", x.setLimit(0, 1, 99), 1);
        Check.same("setLimit once more", x.setLimit(0, 1, 7), 99);
    }

    private static void setAgain() {
        CasebookSteps x = Engines.small();
        Check.same("setAgain at first", x.setAgain(0, 2, false), false);
        Check.same("setAgain", x.setAgain(0, 2, true), false);
        Check.same("setAgain after true", x.setAgain(0, 2, true), true);
        Check.same("setAgain after true", x.setAgain(0, 2, false), true);
    }
}
