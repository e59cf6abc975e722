import java.util.ArrayList;
import java.util.List;
import java.util.NoSuchElementException;

/**
 * The document once more, written for reading and not for speed: lists, recursion, and no memory of the
 * program's own ways. RandomRunsTest compares the two call by call.
 */
public final class Model {
    private record Condition(char sort, int a, int b) {
    }

    private static final class Step {
        char kind;
        int parent;
        boolean required = true;
        boolean again = false;
        int limit = 10;
        final List<Condition> entries = new ArrayList<>();
        final List<Condition> exits = new ArrayList<>();
    }

    private static final class Plan {
        final List<Step> steps = new ArrayList<>();
        boolean used = false;
    }

    private final class Case {
        int plan;
        String states = "";
        int[] clocks = new int[8];
        int[] counts = new int[8];
        int[] data = new int[4];
        int days = 0;
        boolean waits = false;
        int event = -1;
        int rounds = 0;
        int happened = 0;

        List<Step> steps() {
            return plans.get(plan).steps;
        }

        void put(int step, char state) {
            states = states.substring(0, step) + state + states.substring(step + 1);
        }

        boolean holds(Condition c) {
            return switch (c.sort) {
                case 'd' -> data[c.a] >= c.b;
                case 'l' -> data[c.a] < c.b;
                case 'e' -> event == c.a;
                case 'c' -> states.charAt(c.a) == 'c';
                default -> days >= c.a;
            };
        }

        void endBelow(int stage) {
            for (int i = 0; i < steps().size(); i++) {
                if (steps().get(i).parent == stage && "ia".indexOf(states.charAt(i)) >= 0) {
                    put(i, 'x');
                    endBelow(i);
                }
            }
        }

        void look(int i) {
            Step s = steps().get(i);
            char state = states.charAt(i);
            if (state == 'a' && s.exits.stream().anyMatch(this::holds)) {
                put(i, 'x');
                endBelow(i);
            } else if (state == 'i' && (s.entries.isEmpty() || s.entries.stream().anyMatch(this::holds))
                    && (s.parent == -1 || states.charAt(s.parent) == 'a')) {
                put(i, s.kind == 'm' ? 'c' : 'a');
                counts[i]++;
            } else if (state == 'a' && s.kind == 's' && mayBeCompleted(i)) {
                put(i, 'c');
                endBelow(i);
            } else if (state == 'c' && s.kind == 'm' && s.again && !s.entries.isEmpty()
                    && s.entries.stream().noneMatch(this::holds)) {
                put(i, 'i');
            }
        }

        boolean mayBeCompleted(int stage) {
            int children = 0;
            for (int i = 0; i < steps().size(); i++) {
                Step s = steps().get(i);
                if (s.parent == stage) {
                    children++;
                    char state = states.charAt(i);
                    boolean done = state == 'c' || state == 'x' || s.kind == 't' && !s.required;
                    if (state == 'a' || !done) {
                        return false;
                    }
                }
            }
            return children > 0;
        }

        void rounds() {
            happened++;
            while (states.length() < steps().size()) {
                states += "i";
            }
            rounds = 0;
            for (String before = null; !states.equals(before) && rounds < 20;) {
                before = states;
                for (int i = 0; i < steps().size(); i++) {
                    look(i);
                }
                rounds += states.equals(before) ? 0 : 1;
            }
            event = -1;
        }

        boolean isActiveTask(int i) {
            return steps().get(i).kind == 't' && states.charAt(i) == 'a';
        }

        boolean isLate(int i) {
            return isActiveTask(i) && clocks[i] > steps().get(i).limit;
        }

        int changes(String before, int leftOut) {
            int n = 0;
            for (int i = 0; i < states.length(); i++) {
                n += i != leftOut && states.charAt(i) != before.charAt(i) ? 1 : 0;
            }
            return n;
        }
    }

    private final List<Plan> plans = new ArrayList<>();
    private final List<Case> all = new ArrayList<>();

    private static void index(boolean ok) {
        if (!ok) {
            throw new IndexOutOfBoundsException();
        }
    }

    private static void argument(boolean ok) {
        if (!ok) {
            throw new IllegalArgumentException();
        }
    }

    private static void supported(boolean ok) {
        if (!ok) {
            throw new UnsupportedOperationException();
        }
    }

    private static void legal(boolean ok) {
        if (!ok) {
            throw new IllegalStateException();
        }
    }

    private static boolean in(int n, int from, int to) {
        return from <= n && n <= to;
    }

    private Plan plan(int n) {
        index(in(n, 0, plans.size() - 1));
        return plans.get(n);
    }

    private Step step(int plan, int n) {
        index(in(n, 0, plan(plan).steps.size() - 1));
        return plans.get(plan).steps.get(n);
    }

    private Case at(int n) {
        index(in(n, 0, all.size() - 1));
        return all.get(n);
    }

    private Case at(int n, int step) {
        index(in(step, 0, at(n).steps().size() - 1));
        return all.get(n);
    }

    public int addPlan() {
        legal(plans.size() < 3);
        plans.add(new Plan());
        return plans.size() - 1;
    }

    public int addStep(int plan, char kind, int parent) {
        List<Step> steps = plan(plan).steps;
        argument("stm".indexOf(kind) >= 0);
        argument(parent == -1 || in(parent, 0, steps.size() - 1) && steps.get(parent).kind == 's');
        legal(!plans.get(plan).used && steps.size() < 8);
        Step s = new Step();
        s.kind = kind;
        s.parent = parent;
        steps.add(s);
        return steps.size() - 1;
    }

    private void condition(int plan, char sort, int a, int b) {
        argument("dlect".indexOf(sort) >= 0);
        int[] tops = {3, 3, 9, plans.get(plan).steps.size() - 1, 999};
        argument(in(a, 0, tops["dlect".indexOf(sort)]));
        argument("ect".indexOf(sort) >= 0 || in(b, -99, 99));
    }

    public int addEntry(int plan, int step, char sort, int a, int b) {
        Step s = step(plan, step);
        condition(plan, sort, a, b);
        legal(!plans.get(plan).used && s.entries.size() < 3);
        s.entries.add(new Condition(sort, a, b));
        return s.entries.size();
    }

    public int addExit(int plan, int step, char sort, int a, int b) {
        Step s = step(plan, step);
        condition(plan, sort, a, b);
        supported(s.kind != 'm');
        legal(!plans.get(plan).used && s.exits.size() < 3);
        s.exits.add(new Condition(sort, a, b));
        return s.exits.size();
    }

    public boolean setRequired(int plan, int step, boolean isRequired) {
        Step s = step(plan, step);
        supported(s.kind == 't');
        legal(!plans.get(plan).used);
        boolean before = s.required;
        s.required = isRequired;
        return before;
    }

    public int setLimit(int plan, int step, int days) {
        Step s = step(plan, step);
        argument(in(days, 1, 99));
        supported(s.kind == 't');
        legal(!plans.get(plan).used);
        int before = s.limit;
        s.limit = days;
        return before;
    }

    public boolean setAgain(int plan, int step, boolean comesAgain) {
        Step s = step(plan, step);
        supported(s.kind == 'm');
        legal(!plans.get(plan).used);
        boolean before = s.again;
        s.again = comesAgain;
        return before;
    }

    public int steps(int plan) {
        return plan(plan).steps.size();
    }

    public boolean isUsed(int plan) {
        return plan(plan).used;
    }

    public int begin(int plan) {
        Plan p = plan(plan);
        legal(!p.steps.isEmpty() && all.size() < 4);
        p.used = true;
        Case c = new Case();
        c.plan = plan;
        all.add(c);
        c.rounds();
        return all.size() - 1;
    }

    public int set(int number, int datum, int value) {
        Case c = at(number);
        argument(in(datum, 0, 3) && in(value, -99, 99));
        int before = c.data[datum];
        c.data[datum] = value;
        c.rounds();
        return before;
    }

    public int event(int number, int event) {
        Case c = at(number);
        argument(in(event, 0, 9));
        String before = c.states;
        c.event = event;
        c.rounds();
        return c.changes(before, -1);
    }

    public int complete(int number, int step) {
        Case c = at(number, step);
        supported(c.steps().get(step).kind == 't');
        legal(c.states.charAt(step) == 'a');
        String before = c.states;
        c.put(step, 'c');
        c.rounds();
        return c.changes(before, step);
    }

    public boolean setWaiting(int number, boolean waits) {
        Case c = at(number);
        boolean before = c.waits;
        c.waits = waits;
        c.rounds();
        return before;
    }

    public int move(int number, int plan) {
        Case c = at(number);
        argument(plan(plan).steps.size() >= c.steps().size());
        int before = c.plan;
        c.plan = plan;
        plans.get(plan).used = true;
        c.rounds();
        return before;
    }

    public int pass(int days) {
        argument(in(days, 1, 10));
        for (int day = 0; day < days; day++) {
            for (Case c : all) {
                c.days++;
                for (int i = 0; i < c.steps().size(); i++) {
                    c.clocks[i] += c.isActiveTask(i) && !c.waits ? 1 : 0;
                }
                c.rounds();
            }
        }
        int late = 0;
        for (Case c : all) {
            for (int i = 0; i < c.steps().size(); i++) {
                late += c.isLate(i) ? 1 : 0;
            }
        }
        return late;
    }

    public char state(int number, int step) {
        return at(number, step).states.charAt(step);
    }

    public char stateByReplay(int number, int step) {
        return state(number, step);
    }

    public int clock(int number, int step) {
        return at(number, step).clocks[step];
    }

    public int clockByReplay(int number, int step) {
        return clock(number, step);
    }

    public int count(int number, int step) {
        return at(number, step).counts[step];
    }

    public boolean isLate(int number, int step) {
        return at(number, step).isLate(step);
    }

    public int daysLeft(int number) {
        Case c = at(number);
        int left = Integer.MAX_VALUE;
        for (int i = 0; i < c.steps().size(); i++) {
            if (c.isActiveTask(i) && !c.isLate(i)) {
                left = Math.min(left, c.steps().get(i).limit + 1 - c.clocks[i]);
            }
        }
        if (left == Integer.MAX_VALUE) {
            throw new NoSuchElementException();
        }
        return left;
    }

    public boolean holds(int number, int step, boolean isEntry, int index) {
        Step s = at(number, step).steps().get(step);
        List<Condition> asked = isEntry ? s.entries : s.exits;
        if (!in(index, 0, asked.size() - 1)) {
            throw new NoSuchElementException();
        }
        return all.get(number).holds(asked.get(index));
    }

    private static int found(String states, char state) {
        return (int) states.chars().filter(c -> c == state).count();
    }

    public int active(int number) {
        return found(at(number).states, 'a');
    }

    public boolean isOver(int number) {
        Case c = at(number);
        for (int i = 0; i < c.steps().size(); i++) {
            if (c.steps().get(i).parent == -1 && "cx".indexOf(c.states.charAt(i)) < 0) {
                return false;
            }
        }
        return true;
    }

    public int rounds(int number) {
        return at(number).rounds;
    }

    public int datum(int number, int datum) {
        Case c = at(number);
        argument(in(datum, 0, 3));
        return c.data[datum];
    }

    public int days(int number) {
        return at(number).days;
    }

    public int planOf(int number) {
        return at(number).plan;
    }

    public boolean isWaiting(int number) {
        return at(number).waits;
    }

    public int happened(int number) {
        return at(number).happened;
    }

    public int cases() {
        return all.size();
    }

    public long daysWorked() {
        long sum = 0;
        for (Case c : all) {
            for (int clock : c.clocks) {
                sum += clock;
            }
        }
        return sum;
    }

    public float doneShare(int number) {
        Case c = at(number);
        return (float) found(c.states, 'c') / (float) c.steps().size();
    }
}
