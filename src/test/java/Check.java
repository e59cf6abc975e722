import java.util.Objects;
import java.util.function.Function;
import java.util.function.Supplier;

/** What the tests share: comparing answers, and calls that must be refused. */
final class Check {
    static final Class<?> INDEX = IndexOutOfBoundsException.class;
    static final Class<?> ARGUMENT = IllegalArgumentException.class;
    static final Class<?> UNSUPPORTED = UnsupportedOperationException.class;
    static final Class<?> STATE = IllegalStateException.class;
    static final Class<?> NO_ELEMENT = java.util.NoSuchElementException.class;

    private static String sentence = "";
    private static int checksOfSentence = 0;
    private static int wrong = 0;

    private Check() {
    }

    /** Names the sentence of the document that the checks from here on are about. */
    static void sentence(String words) {
        endSentence();
        sentence = words;
        checksOfSentence = 0;
    }

    private static void endSentence() {
        if (!sentence.isEmpty() && checksOfSentence == 0) {
            wrong++;
            System.out.println(sentence + ": nothing was checked");
        }
    }

    static void same(String what, Object got, Object due) {
        checksOfSentence++;
        if (!Objects.equals(got, due)) {
            wrong++;
            System.out.println((sentence.isEmpty() ? "" : sentence + ": ") + what + " answered " + got
                + ", due is " + due);
        }
    }

    /**
     * The call throws exactly this exception (the machine's own are of classes below it) and changes nothing: an
     * engine on which it was tried and one on which it was not are the same in all that can be found out of them.
     * Two engines, as one would be used for more calls than the document promises.
     */
    static void refused(String what, Class<?> due, Supplier<CasebookSteps> made,
            Function<CasebookSteps, Object> call) {
        CasebookSteps tried = made.get();
        same(what, outcome(() -> call.apply(tried)), due.getSimpleName());
        same(what + ": what is found after it", Probe.of(tried), Probe.of(made.get()));
    }

    /** The call is answered, on an engine of its own. */
    static void answers(String what, Object due, Supplier<CasebookSteps> made, Function<CasebookSteps, Object> call) {
        CasebookSteps asked = made.get();
        same(what, outcome(() -> call.apply(asked)), due);
    }

    static Object outcome(Supplier<Object> call) {
        try {
            return call.get();
        } catch (RuntimeException e) {
            return e.getClass().getSimpleName();
        }
    }

    /** Numbers that are not from 0 to count - 1, and those among them that come round to it where bits are lost. */
    static int[] outside(int count) {
        return new int[] {-1, -2, -count - 1, -256, -65536, Integer.MIN_VALUE, Integer.MIN_VALUE + count,
            count, count + 1, 32, 256, 65536, Integer.MAX_VALUE - 1, Integer.MAX_VALUE};
    }

    /** The states of a case's steps as one text, such as "aic". */
    static String states(CasebookSteps engine, int number) {
        StringBuilder text = new StringBuilder();
        int steps = engine.steps(engine.planOf(number));
        for (int i = 0; i < steps; i++) {
            text.append(engine.state(number, i));
        }
        return text.toString();
    }

    static void end(String test) {
        endSentence();
        System.out.println(test + ": " + (wrong == 0 ? "all answers are as due" : wrong + " answers are not as due"));
        if (wrong != 0) {
            System.exit(1);
        }
    }
}
