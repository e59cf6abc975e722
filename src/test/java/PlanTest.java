/** Promises 1 to 10: a new object, and plans. */
public final class PlanTest {
    private static final Class<?> INDEX = IndexOutOfBoundsException.class;
    private static final Class<?> ARGUMENT = IllegalArgumentException.class;
    private static final Class<?> UNSUPPORTED = UnsupportedOperationException.class;
    private static final Class<?> STATE = IllegalStateException.class;
    private static final int[] NO_NUMBERS = {-1, 1, 3, 8, Integer.MIN_VALUE, Integer.MAX_VALUE};

    public static void main(String[] args) {
        newObject();
        addPlan();
        addStep();
        addStepRefused();
        addEntry();
        addExit();
        conditionNumbers();
        setRequired();
        setLimit();
        setAgain();
        usedPlans();
        Check.end("PlanTest");
    }

    /** A plan with a stage 0, a task 1 in it and a milestone 2. */
    private static CasebookSteps small() {
        CasebookSteps x = new CasebookSteps();
        x.addPlan();
        x.addStep(0, 's', -1);
        x.addStep(0, 't', 0);
        x.addStep(0, 'm', -1);
        return x;
    }

    private static CasebookSteps smallUsed() {
        CasebookSteps x = small();
        x.begin(0);
        return x;
    }

    private static void newObject() {
        CasebookSteps x = new CasebookSteps();
        Check.same("cases of a new object", x.cases(), 0);
        Check.same("daysWorked of a new object", x.daysWorked(), 0L);
        Check.same("pass on a new object", x.pass(10), 0);
        for (int number : new int[] {0, 1, -1}) {
            Check.refused(x, "steps of a new object", INDEX, () -> x.steps(number));
            Check.refused(x, "isUsed of a new object", INDEX, () -> x.isUsed(number));
            Check.refused(x, "begin on a new object", INDEX, () -> x.begin(number));
            Check.refused(x, "days on a new object", INDEX, () -> x.days(number));
        }
    }

    private static void addPlan() {
        CasebookSteps x = new CasebookSteps();
        for (int i = 0; i < 3; i++) {
            Check.same("addPlan", x.addPlan(), i);
            Check.same("steps of a new plan", x.steps(i), 0);
            Check.same("isUsed of a new plan", x.isUsed(i), false);
        }
        Check.refused(x, "the fourth addPlan", STATE, x::addPlan);
        Check.refused(x, "steps(3)", INDEX, () -> x.steps(3));
        Check.refused(x, "isUsed(3)", INDEX, () -> x.isUsed(3));
        Check.refused(x, "isUsed(-1)", INDEX, () -> x.isUsed(-1));
    }

    private static void addStep() {
        CasebookSteps x = new CasebookSteps();
        x.addPlan();
        x.addPlan();
        int[] parents = {-1, 0, 0, 1, -1, 4, 1, -1};
        String kinds = "sstmstmm";
        for (int i = 0; i < 8; i++) {
            Check.same("addStep", x.addStep(0, kinds.charAt(i), parents[i]), i);
            Check.same("steps", x.steps(0), i + 1);
        }
        Check.same("steps of the other plan", x.steps(1), 0);
        Check.refused(x, "the ninth step", STATE, () -> x.addStep(0, 't', -1));
        Check.refused(x, "the ninth step of no kind", ARGUMENT, () -> x.addStep(0, 'q', -1));
        Check.refused(x, "the ninth step in a task", ARGUMENT, () -> x.addStep(0, 't', 2));
        Check.same("the first step of the other plan", x.addStep(1, 'm', -1), 0);
    }

    private static void addStepRefused() {
        CasebookSteps x = small();
        for (int plan : NO_NUMBERS) {
            Check.refused(x, "addStep in no plan", INDEX, () -> x.addStep(plan, 'q', 99));
        }
        for (char kind : new char[] {'a', 'S', 'r', 'u', 'n', 0, 255, Character.MAX_VALUE}) {
            Check.refused(x, "addStep of no kind", ARGUMENT, () -> x.addStep(0, kind, -1));
        }
        for (int parent : new int[] {-2, 1, 2, 3, 8, Integer.MIN_VALUE, Integer.MAX_VALUE}) {
            Check.refused(x, "addStep in no stage", ARGUMENT, () -> x.addStep(0, 't', parent));
        }
        Check.same("addStep after refusals", x.addStep(0, 's', 0), 3);
        CasebookSteps y = smallUsed();
        Check.refused(y, "addStep to a used plan", STATE, () -> y.addStep(0, 't', 0));
        Check.refused(y, "addStep of no kind to a used plan", ARGUMENT, () -> y.addStep(0, 'x', 0));
        Check.refused(y, "addStep in no stage of a used plan", ARGUMENT, () -> y.addStep(0, 't', 1));
    }

    private static void addEntry() {
        CasebookSteps x = small();
        for (int step = 0; step < 3; step++) {
            for (int i = 1; i <= 3; i++) {
                Check.same("addEntry", x.addEntry(0, step, 'd', 0, 99), i);
            }
            int full = step;
            Check.refused(x, "the fourth entry condition", STATE, () -> x.addEntry(0, full, 'd', 0, 0));
            Check.refused(x, "the fourth, of no sort", ARGUMENT, () -> x.addEntry(0, full, 'x', 0, 0));
        }
        Check.same("addExit beside full entries", x.addExit(0, 0, 'e', 0, 0), 1);
        for (int number : NO_NUMBERS) {
            Check.refused(x, "addEntry in no plan", INDEX, () -> x.addEntry(number, 0, 'x', 0, 0));
        }
        for (int number : new int[] {-1, 3, 8, Integer.MIN_VALUE, Integer.MAX_VALUE}) {
            Check.refused(x, "addEntry to no step", INDEX, () -> x.addEntry(0, number, 'x', 0, 0));
        }
        CasebookSteps y = smallUsed();
        Check.refused(y, "addEntry in a used plan", STATE, () -> y.addEntry(0, 0, 'd', 0, 0));
        Check.refused(y, "addEntry of no sort in a used plan", ARGUMENT, () -> y.addEntry(0, 0, 's', 0, 0));
        Check.refused(y, "addEntry to no step of a used plan", INDEX, () -> y.addEntry(0, 3, 'd', 0, 0));
    }

    private static void addExit() {
        CasebookSteps x = small();
        for (int step = 0; step < 2; step++) {
            for (int i = 1; i <= 3; i++) {
                Check.same("addExit", x.addExit(0, step, 'l', 3, -99), i);
            }
            int full = step;
            Check.refused(x, "the fourth exit condition", STATE, () -> x.addExit(0, full, 'd', 0, 0));
            Check.refused(x, "the fourth, of no sort", ARGUMENT, () -> x.addExit(0, full, 'x', 0, 0));
        }
        Check.same("addEntry beside full exits", x.addEntry(0, 0, 'e', 0, 0), 1);
        Check.refused(x, "addExit to a milestone", UNSUPPORTED, () -> x.addExit(0, 2, 'd', 0, 0));
        Check.refused(x, "addExit of no sort to a milestone", ARGUMENT, () -> x.addExit(0, 2, 'x', 0, 0));
        for (int number : NO_NUMBERS) {
            Check.refused(x, "addExit in no plan", INDEX, () -> x.addExit(number, 2, 'x', 0, 0));
        }
        for (int number : new int[] {-1, 3, 8, Integer.MIN_VALUE, Integer.MAX_VALUE}) {
            Check.refused(x, "addExit to no step", INDEX, () -> x.addExit(0, number, 'x', 0, 0));
        }
        CasebookSteps y = smallUsed();
        Check.refused(y, "addExit in a used plan", STATE, () -> y.addExit(0, 0, 'd', 0, 0));
        Check.refused(y, "addExit to a milestone of a used plan", UNSUPPORTED, () -> y.addExit(0, 2, 'd', 0, 0));
        Check.refused(y, "addExit of no sort in a used plan", ARGUMENT, () -> y.addExit(0, 2, 's', 0, 0));
    }

    private static void conditionNumbers() {
        for (char sort : new char[] {'d', 'l'}) {
            accepts(sort, 0, -99);
            accepts(sort, 3, 99);
            refuses(sort, -1, 0);
            refuses(sort, 4, 0);
            refuses(sort, 0, -100);
            refuses(sort, 0, 100);
            refuses(sort, Integer.MIN_VALUE, 0);
            refuses(sort, 0, Integer.MAX_VALUE);
        }
        for (int b : new int[] {0, 100, Integer.MIN_VALUE}) {
            accepts('e', 0, b);
            accepts('e', 9, b);
            refuses('e', -1, b);
            refuses('e', 10, b);
            accepts('c', 0, b);
            accepts('c', 1, b);
            accepts('c', 2, b);
            refuses('c', -1, b);
            refuses('c', 3, b);
            refuses('c', 8, b);
            accepts('t', 0, b);
            accepts('t', 999, b);
            refuses('t', -1, b);
            refuses('t', 1000, b);
        }
        for (char sort : new char[] {'a', 'i', 'm', 's', 'x', 'D', 0, 255}) {
            refuses(sort, 0, 0);
        }
    }

    private static void accepts(char sort, int a, int b) {
        CasebookSteps x = small();
        Check.same("addEntry " + sort + " " + a + " " + b, Check.outcome(() -> x.addEntry(0, 0, sort, a, b)), 1);
        Check.same("addExit " + sort + " " + a + " " + b, Check.outcome(() -> x.addExit(0, 0, sort, a, b)), 1);
    }

    private static void refuses(char sort, int a, int b) {
        CasebookSteps x = small();
        Check.refused(x, "addEntry " + sort + " " + a + " " + b, ARGUMENT, () -> x.addEntry(0, 0, sort, a, b));
        Check.refused(x, "addExit " + sort + " " + a + " " + b, ARGUMENT, () -> x.addExit(0, 0, sort, a, b));
        Check.same("addEntry after a refusal", x.addEntry(0, 0, 'd', 0, 0), 1);
        Check.same("addExit after a refusal", x.addExit(0, 0, 'd', 0, 0), 1);
    }

    private static void setRequired() {
        CasebookSteps x = small();
        Check.same("setRequired at first", x.setRequired(0, 1, true), true);
        Check.same("setRequired", x.setRequired(0, 1, false), true);
        Check.same("setRequired after false", x.setRequired(0, 1, false), false);
        Check.same("setRequired after false", x.setRequired(0, 1, true), false);
        Check.refused(x, "setRequired of a stage", UNSUPPORTED, () -> x.setRequired(0, 0, false));
        Check.refused(x, "setRequired of a milestone", UNSUPPORTED, () -> x.setRequired(0, 2, false));
        for (int number : NO_NUMBERS) {
            Check.refused(x, "setRequired in no plan", INDEX, () -> x.setRequired(number, 0, false));
        }
        for (int number : new int[] {-1, 3, 8}) {
            Check.refused(x, "setRequired of no step", INDEX, () -> x.setRequired(0, number, false));
        }
        CasebookSteps y = smallUsed();
        Check.refused(y, "setRequired in a used plan", STATE, () -> y.setRequired(0, 1, false));
        Check.refused(y, "setRequired of a stage in a used plan", UNSUPPORTED, () -> y.setRequired(0, 0, false));
        Check.refused(y, "setRequired of no step of a used plan", INDEX, () -> y.setRequired(0, 3, false));
    }

    private static void setLimit() {
        CasebookSteps x = small();
        Check.same("setLimit at first", x.setLimit(0, 1, 1), 10);
        Check.same("setLimit", x.setLimit(0, 1, 99), 1);
        for (int days : new int[] {0, 100, -1, Integer.MIN_VALUE, Integer.MAX_VALUE}) {
            Check.refused(x, "setLimit to " + days, ARGUMENT, () -> x.setLimit(0, 1, days));
            Check.refused(x, "setLimit of a stage to " + days, ARGUMENT, () -> x.setLimit(0, 0, days));
            Check.refused(x, "setLimit of no step to " + days, INDEX, () -> x.setLimit(0, 3, days));
        }
        Check.refused(x, "setLimit of a stage", UNSUPPORTED, () -> x.setLimit(0, 0, 5));
        Check.refused(x, "setLimit of a milestone", UNSUPPORTED, () -> x.setLimit(0, 2, 5));
        Check.same("setLimit after refusals", x.setLimit(0, 1, 7), 99);
        for (int number : NO_NUMBERS) {
            Check.refused(x, "setLimit in no plan", INDEX, () -> x.setLimit(number, 0, 0));
        }
        for (int number : new int[] {-1, 3, 8}) {
            Check.refused(x, "setLimit of no step", INDEX, () -> x.setLimit(0, number, 5));
        }
        CasebookSteps y = smallUsed();
        Check.refused(y, "setLimit in a used plan", STATE, () -> y.setLimit(0, 1, 5));
        Check.refused(y, "setLimit of a stage in a used plan", UNSUPPORTED, () -> y.setLimit(0, 0, 5));
        Check.refused(y, "setLimit to 0 in a used plan", ARGUMENT, () -> y.setLimit(0, 0, 0));
    }

    private static void setAgain() {
        CasebookSteps x = small();
        Check.same("setAgain at first", x.setAgain(0, 2, false), false);
        Check.same("setAgain", x.setAgain(0, 2, true), false);
        Check.same("setAgain after true", x.setAgain(0, 2, true), true);
        Check.same("setAgain after true", x.setAgain(0, 2, false), true);
        Check.refused(x, "setAgain of a stage", UNSUPPORTED, () -> x.setAgain(0, 0, true));
        Check.refused(x, "setAgain of a task", UNSUPPORTED, () -> x.setAgain(0, 1, true));
        for (int number : NO_NUMBERS) {
            Check.refused(x, "setAgain in no plan", INDEX, () -> x.setAgain(number, 0, true));
        }
        for (int number : new int[] {-1, 3, 8}) {
            Check.refused(x, "setAgain of no step", INDEX, () -> x.setAgain(0, number, true));
        }
        CasebookSteps y = smallUsed();
        Check.refused(y, "setAgain in a used plan", STATE, () -> y.setAgain(0, 2, true));
        Check.refused(y, "setAgain of a task in a used plan", UNSUPPORTED, () -> y.setAgain(0, 1, true));
        Check.refused(y, "setAgain of no step of a used plan", INDEX, () -> y.setAgain(0, 3, true));
    }

    private static void usedPlans() {
        CasebookSteps x = small();
        x.addPlan();
        for (int i = 0; i < 3; i++) {
            x.addStep(1, 't', -1);
        }
        Check.same("isUsed before", x.isUsed(0), false);
        x.begin(0);
        Check.same("isUsed after begin", x.isUsed(0), true);
        Check.same("isUsed of the other plan", x.isUsed(1), false);
        x.move(0, 1);
        Check.same("isUsed after move", x.isUsed(1), true);
        Check.same("isUsed of the plan that was left", x.isUsed(0), true);
        Check.refused(x, "addStep after move", STATE, () -> x.addStep(1, 't', -1));
        Check.refused(x, "addStep to the plan that was left", STATE, () -> x.addStep(0, 't', -1));
    }
}
