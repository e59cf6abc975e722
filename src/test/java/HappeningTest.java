import java.util.function.Function;

/** Each thing that can happen to a case, in a case in which any number of rounds would change something. */
public final class HappeningTest {
    // What twenty rounds more make of the milestones, time after time.
    private static final String[] TURNS = {"icii", "iici", "ciic"};

    private static int times;

    public static void main(String[] args) {
        eachThingIsFollowedByRounds();
        theBeginningIsFollowedByRounds();
        daysAreFollowedByRoundsForEachCase();
        whatHappensToOneCase();
        readingIsNothingThatHappens();
        Check.end("HappeningTest");
    }

    /** So many cases in the ring; their first twenty rounds are over. */
    private static CasebookSteps spinning(int cases) {
        CasebookSteps x = Engines.ring(cases);
        for (int i = 0; i < cases; i++) {
            x.move(i, 1);
        }
        times = 1;
        return x;
    }

    private static void follows(String what, Object due, CasebookSteps x, Function<CasebookSteps, Object> call) {
        Check.same(what, call.apply(x), due);
        times++;
        hasTurned(what, x, 0, times);
    }

    /** So many things have happened since it began, the move among them, each with its twenty rounds. */
    private static void hasTurned(String what, CasebookSteps x, int number, int things) {
        Check.same(what + ", happened", x.happened(number), 1 + things);
        Check.same(what + ", rounds", x.rounds(number), 20);
        Check.same(what + ", count", x.count(number, 0), 20 * things / 3);
        String due = TURNS[(things - 1) % 3];
        for (int step = 0; step < 4; step++) {
            Check.same(what + ", state", x.state(number, step), due.charAt(step));
            Check.same(what + ", stateByReplay", x.stateByReplay(number, step), due.charAt(step));
        }
    }

    private static void eachThingIsFollowedByRounds() {
        Check.sentence("Rounds: whenever something happens to a case, rounds follow");
        CasebookSteps x = spinning(1);
        hasTurned("it is moved", x, 0, times);
        follows("a datum is set", 0, x, y -> y.set(0, 1, 5));
        follows("a datum is set to what it is", 5, x, y -> y.set(0, 1, 5));
        follows("an event comes", 3, x, y -> y.event(0, 3));
        follows("the case goes on, as it did", false, x, y -> y.setWaiting(0, false));
        follows("the case waits", false, x, y -> y.setWaiting(0, true));
        follows("the case waits, as it did", true, x, y -> y.setWaiting(0, true));
        follows("a day passes while it waits", 0, x, y -> y.pass(1));
        follows("the case goes on", true, x, y -> y.setWaiting(0, false));
        follows("a day passes", 0, x, y -> y.pass(1));
        follows("a task is completed", 2, x, y -> y.complete(0, 4));
        follows("it is moved to its own plan", 1, x, y -> y.move(0, 1));
        Check.same("clockByReplay of the completed task", x.clockByReplay(0, 4), 1);
        Check.same("clock of the other task", x.clock(0, 5), 1);
        Check.same("datum", x.datum(0, 1), 5);
    }

    private static void theBeginningIsFollowedByRounds() {
        Check.sentence("What happens: a case begins");
        CasebookSteps x = Engines.of("mmt", -1, -1, -1);
        x.addEntry(0, 0, 'c', 1, 0);
        x.begin(0);
        Check.same("states", Check.states(x, 0), "cca");
        Check.same("rounds", x.rounds(0), 2);
        Check.same("happened", x.happened(0), 1);
        Check.same("stateByReplay", x.stateByReplay(0, 0), 'c');
    }

    private static void daysAreFollowedByRoundsForEachCase() {
        Check.sentence("What happens: a day passes for it");
        CasebookSteps x = spinning(3);
        x.setWaiting(2, true);
        Check.same("pass", x.pass(4), 0);
        hasTurned("the first case", x, 0, 5);
        hasTurned("the second case", x, 1, 5);
        hasTurned("the third case", x, 2, 6);
        for (int number = 0; number < 3; number++) {
            int due = number == 2 ? 0 : 4;
            Check.same("days", x.days(number), 4);
            Check.same("clock", x.clock(number, 4), due);
            Check.same("clockByReplay", x.clockByReplay(number, 4), due);
        }
    }

    private static void whatHappensToOneCase() {
        Check.sentence("What happens: to a case, and not to the others");
        CasebookSteps x = spinning(2);
        x.set(1, 0, 1);
        x.event(1, 0);
        x.complete(1, 5);
        x.setWaiting(1, true);
        x.setWaiting(1, false);
        x.move(1, 1);
        hasTurned("the one", x, 1, 7);
        hasTurned("the other", x, 0, 1);
        x.begin(1);
        hasTurned("the other, when a third one begins", x, 0, 1);
    }

    private static void readingIsNothingThatHappens() {
        Check.sentence("What happens: nothing else");
        CasebookSteps x = spinning(1);
        Check.same("steps", x.steps(1), 6);
        Check.same("isUsed", x.isUsed(1), true);
        Check.same("clock", x.clock(0, 0), 0);
        Check.same("isLate", x.isLate(0, 4), false);
        Check.same("daysLeft", x.daysLeft(0), 11);
        Check.same("holds", x.holds(0, 0, true, 0), true);
        Check.same("active", x.active(0), 2);
        Check.same("isOver", x.isOver(0), false);
        Check.same("datum", x.datum(0, 0), 0);
        Check.same("days", x.days(0), 0);
        Check.same("planOf", x.planOf(0), 1);
        Check.same("isWaiting", x.isWaiting(0), false);
        Check.same("cases", x.cases(), 1);
        Check.same("daysWorked", x.daysWorked(), 0L);
        Check.same("doneShare", x.doneShare(0), 1.0f / 6.0f);
        Check.same("a plan is made", x.addPlan(), 2);
        Check.same("a step is added to it", x.addStep(2, 't', -1), 0);
        hasTurned("the case", x, 0, 1);
    }
}
