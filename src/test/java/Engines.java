/** Engines for the tests. */
final class Engines {
    private Engines() {
    }

    /** An engine with one plan of steps of these kinds in these parents. */
    static CasebookSteps of(String kinds, int... parents) {
        return withPlan(new CasebookSteps(), kinds, parents);
    }

    /** The engine with one plan more. */
    static CasebookSteps withPlan(CasebookSteps engine, String kinds, int... parents) {
        int plan = engine.addPlan();
        for (int i = 0; i < kinds.length(); i++) {
            engine.addStep(plan, kinds.charAt(i), parents[i]);
        }
        return engine;
    }

    /** The engine with so many cases more, begun with the plan. */
    static CasebookSteps begun(CasebookSteps engine, int plan, int cases) {
        for (int i = 0; i < cases; i++) {
            engine.begin(plan);
        }
        return engine;
    }

    /** A stage 0, a task 1 in it, a milestone 2. */
    static CasebookSteps small() {
        return of("stm", -1, 0, -1);
    }

    static CasebookSteps usedByBeginning() {
        return begun(small(), 0, 1);
    }

    /** The plan 0 is the small one, and used only because a case was moved to it. */
    static CasebookSteps usedByMoving() {
        CasebookSteps engine = begun(withPlan(small(), "t", -1), 1, 1);
        engine.move(0, 0);
        return engine;
    }

    /**
     * Milestones that follow one another round for ever, in three turns, once a case is moved to the plan 1; behind
     * them two tasks.
     */
    static CasebookSteps ring(int cases) {
        CasebookSteps engine = of("mmmmtt", -1, -1, -1, -1, -1, -1);
        for (int i = 0; i < 3; i++) {
            engine.addEntry(0, i, 'd', 3, 99);
        }
        withPlan(engine, "mmmmtt", -1, -1, -1, -1, -1, -1);
        for (int i = 0; i < 4; i++) {
            engine.setAgain(1, i, true);
            engine.addEntry(1, i, 'c', (i + 1) % 4, 0);
        }
        return begun(engine, 0, cases);
    }
}
