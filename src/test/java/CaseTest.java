/** Promises 11 to 17, ordinary calls: how cases begin, and what happens to them. */
public final class CaseTest {
    public static void main(String[] args) {
        begin();
        set();
        event();
        complete();
        setWaiting();
        move();
        moveKeepsWhatSteps();
        pass();
        passLate();
        Check.end("CaseTest");
    }

    private static void begin() {
        CasebookSteps x = Engines.of("t", -1);
        x.addPlan();
        for (int i = 0; i < 4; i++) {
            Check.same("begin", x.begin(0), i);
            Check.same("cases", x.cases(), i + 1);
            Check.same("state", x.state(i, 0), 'a');
            Check.same("happened", x.happened(i), 1);
            Check.same("rounds", x.rounds(i), 1);
            Check.same("count", x.count(i, 0), 1);
            Check.same("isWaiting", x.isWaiting(i), false);
            Check.same("planOf", x.planOf(i), 0);
            Check.same("days", x.days(i), 0);
        }
        Check.same("isUsed of the other plan", x.isUsed(1), false);
    }

    private static void set() {
        CasebookSteps x = Engines.of("t", -1);
        x.addExit(0, 0, 'd', 2, 50);
        x.begin(0);
        x.begin(0);
        Check.same("set", x.set(0, 2, 49), 0);
        Check.same("states", Check.states(x, 0), "a");
        Check.same("set", x.set(0, 2, 50), 49);
        Check.same("states", Check.states(x, 0), "x");
        Check.same("states of the other case", Check.states(x, 1), "a");
        Check.same("datum of the other case", x.datum(1, 2), 0);
        Check.same("set to -99", x.set(0, 2, -99), 50);
        Check.same("set to 99", x.set(0, 2, 99), -99);
        Check.same("the same once more", x.set(0, 2, 99), 99);
        Check.same("happened", x.happened(0), 6);
        Check.same("rounds", x.rounds(0), 0);
        Check.same("datum 3", x.set(0, 3, 1), 0);
        Check.same("datum 0", x.set(0, 0, 2), 0);
    }

    private static void event() {
        CasebookSteps x = Engines.of("stst", -1, 0, 0, 2);
        x.addEntry(0, 1, 'e', 9, 0);
        x.addExit(0, 0, 'e', 0, 0);
        x.begin(0);
        Check.same("states", Check.states(x, 0), "aiaa");
        Check.same("event without effect", x.event(0, 8), 0);
        Check.same("event 9", x.event(0, 9), 1);
        Check.same("states", Check.states(x, 0), "aaaa");
        Check.same("event 0", x.event(0, 0), 4);
        Check.same("states", Check.states(x, 0), "xxxx");
        Check.same("event at the end", x.event(0, 0), 0);
        Check.same("happened", x.happened(0), 5);
    }

    private static void complete() {
        CasebookSteps x = Engines.of("sttm", -1, 0, 0, -1);
        x.addEntry(0, 3, 'c', 2, 0);
        x.begin(0);
        Check.same("complete the first", x.complete(0, 1), 0);
        Check.same("states", Check.states(x, 0), "acai");
        Check.same("complete the second", x.complete(0, 2), 2);
        Check.same("states", Check.states(x, 0), "cccc");
        Check.same("happened", x.happened(0), 3);
        Check.same("rounds", x.rounds(0), 1);
        Check.same("count", x.count(0, 2), 1);
    }

    private static void setWaiting() {
        CasebookSteps x = Engines.of("t", -1);
        x.begin(0);
        x.begin(0);
        Check.same("setWaiting", x.setWaiting(0, true), false);
        Check.same("isWaiting", x.isWaiting(0), true);
        Check.same("isWaiting of the other case", x.isWaiting(1), false);
        Check.same("setWaiting once more", x.setWaiting(0, true), true);
        x.pass(3);
        Check.same("clock of a case that waits", x.clock(0, 0), 0);
        Check.same("clock of the other case", x.clock(1, 0), 3);
        Check.same("days of a case that waits", x.days(0), 3);
        Check.same("setWaiting false", x.setWaiting(0, false), true);
        Check.same("isWaiting", x.isWaiting(0), false);
        Check.same("setWaiting false once more", x.setWaiting(0, false), false);
        x.pass(1);
        Check.same("clock of a case that went on", x.clock(0, 0), 1);
        Engines.withPlan(x, "t", -1);
        x.move(1, 1);
        x.setWaiting(1, true);
        x.setWaiting(1, false);
        Check.same("planOf a case that waited", x.planOf(1), 1);
        Check.same("happened", x.happened(0), 9);
        Check.same("rounds", x.rounds(0), 0);
    }

    private static void move() {
        CasebookSteps x = Engines.of("t", -1);
        Engines.withPlan(x, "tm", -1, -1);
        x.begin(0);
        Check.same("move", x.move(0, 1), 0);
        Check.same("planOf", x.planOf(0), 1);
        Check.same("states", Check.states(x, 0), "ac");
        Check.same("rounds", x.rounds(0), 1);
        Check.same("happened", x.happened(0), 2);
        Check.same("move to its own plan", x.move(0, 1), 1);
        Check.same("states", Check.states(x, 0), "ac");
        Check.same("rounds", x.rounds(0), 0);
        Check.same("happened", x.happened(0), 3);
        Check.same("count", x.count(0, 1), 1);
    }

    /** States, clocks and counts stay; the new plan's kinds, parents, conditions and limits count. */
    private static void moveKeepsWhatSteps() {
        CasebookSteps x = Engines.of("ttm", -1, -1, -1);
        Engines.withPlan(x, "stmt", -1, 0, -1, 0);
        x.setLimit(1, 1, 2);
        x.addEntry(1, 2, 'd', 0, 1);
        x.setAgain(1, 2, true);
        x.begin(0);
        x.pass(3);
        Check.same("states", Check.states(x, 0), "aac");
        Check.same("isLate by the old limit", x.isLate(0, 1), false);
        x.move(0, 1);
        Check.same("states", Check.states(x, 0), "aaia");
        Check.same("clock of a task that is a stage now", x.clock(0, 0), 3);
        Check.same("clock of a task", x.clock(0, 1), 3);
        Check.same("clock of a step that is new", x.clock(0, 3), 0);
        Check.same("count", x.count(0, 2), 1);
        Check.same("count of a step that is new", x.count(0, 3), 1);
        Check.same("isLate by the new limit", x.isLate(0, 1), true);
        x.pass(1);
        Check.same("clock of a stage stands", x.clock(0, 0), 3);
        Check.same("clock of a task runs", x.clock(0, 1), 4);
        x.set(0, 0, 1);
        Check.same("count goes on", x.count(0, 2), 2);
        Check.same("stateByReplay", x.stateByReplay(0, 2), 'c');
        Check.same("clockByReplay", x.clockByReplay(0, 1), 4);
    }

    private static void pass() {
        CasebookSteps x = Engines.of("tmt", -1, -1, -1);
        x.addEntry(0, 1, 't', 3, 0);
        x.addEntry(0, 2, 'c', 1, 0);
        x.begin(0);
        Check.same("pass", x.pass(2), 0);
        Check.same("states", Check.states(x, 0), "aii");
        x.begin(0);
        Check.same("pass", x.pass(10), 1);
        Check.same("states", Check.states(x, 0), "aca");
        Check.same("days", x.days(0), 12);
        Check.same("days of the other case", x.days(1), 10);
        Check.same("clock", x.clock(0, 0), 12);
        Check.same("clock of a task that began on the third day", x.clock(0, 2), 9);
        Check.same("clock in the other case", x.clock(1, 2), 7);
        Check.same("happened", x.happened(0), 13);
        Check.same("rounds on the last day", x.rounds(0), 0);
        CasebookSteps y = Engines.of("m", -1);
        y.addEntry(0, 0, 't', 10, 0);
        y.begin(0);
        Check.same("pass without tasks", y.pass(9), 0);
        Check.same("rounds", y.rounds(0), 0);
        y.pass(1);
        Check.same("rounds on the day on which it came", y.rounds(0), 1);
    }

    private static void passLate() {
        CasebookSteps x = Engines.of("tts", -1, -1, -1);
        x.setLimit(0, 0, 1);
        x.setLimit(0, 1, 3);
        x.begin(0);
        x.begin(0);
        Check.same("the clock is not greater than the limit", x.pass(1), 0);
        Check.same("one task is late in each case", x.pass(1), 2);
        x.complete(0, 0);
        Check.same("a completed task is not late", x.pass(1), 1);
        x.setWaiting(0, true);
        Check.same("a case that waits", x.pass(1), 2);
        x.setWaiting(1, true);
        Check.same("a task that is late stays so while it waits", x.pass(10), 2);
    }
}
