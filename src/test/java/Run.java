import java.lang.reflect.InvocationTargetException;
import java.lang.reflect.Method;
import java.util.ArrayList;
import java.util.Arrays;
import java.util.HashMap;
import java.util.List;
import java.util.Map;

/**
 * A run of calls on a new object, for one sentence of the document. Calls are given by name, so that a
 * wrong answer can be told as it was asked, and the run be made again on a twin.
 */
final class Run {
    private static final int MOST_CALLS = 512;
    private static final Map<String, Method> METHODS = methodsByName();

    private record Call(String name, long[] numbers) {
        String text() {
            return name + Arrays.toString(numbers).replace('[', '(').replace(']', ')');
        }
    }

    private final Check check;
    private final String sentence;
    private final EarSchool school = new EarSchool();
    private final List<Call> calls = new ArrayList<>();

    /** The promise's number, and the words of the document that the answers are due by. */
    Run(Check check, int promise, String words) {
        this(check, "promise " + promise + ", \"" + words + "\"");
    }

    Run(Check check, String sentence) {
        this.check = check;
        this.sentence = sentence;
    }

    private static Map<String, Method> methodsByName() {
        Map<String, Method> methods = new HashMap<>();
        for (Method method : EarSchool.class.getMethods()) {
            if (method.getDeclaringClass() == EarSchool.class) {
                methods.put(method.getName(), method);
            }
        }
        return methods;
    }

    private static Object argument(Class<?> type, long number) {
        if (type == boolean.class) {
            return number != 0;
        }
        return type == long.class ? (Object) number : (Object) Math.toIntExact(number);
    }

    /** What the call answers; a boolean is given as 1 or 0. */
    long ask(String name, long... numbers) {
        Call call = new Call(name, numbers);
        calls.add(call);
        // Behind them every answer is free, so that a test that goes on would say nothing.
        check.isTrue(sentence + ": at most " + MOST_CALLS + " calls", calls.size() <= MOST_CALLS);
        Method method = METHODS.get(name);
        Object[] arguments = new Object[numbers.length];
        for (int i = 0; i < numbers.length; i++) {
            arguments[i] = argument(method.getParameterTypes()[i], numbers[i]);
        }
        try {
            return ((Number) method.invoke(school, arguments)).longValue();
        } catch (InvocationTargetException thrown) {
            throw new AssertionError(sentence + ": " + call.text() + " threw", thrown.getCause());
        } catch (IllegalAccessException closed) {
            throw new AssertionError(closed);
        }
    }

    void due(long want, String name, long... numbers) {
        long got = ask(name, numbers);
        check.due(sentence + ": " + calls.get(calls.size() - 1).text(), got, want);
    }

    /** The answer is due, and nothing has changed: a twin that was not asked this tells the same state. */
    void refused(long want, String name, long... numbers) {
        String before = State.of(twin());
        due(want, name, numbers);
        String after = State.of(twin());
        check.isTrue(sentence + ": " + calls.get(calls.size() - 1).text() + " changes nothing\n  before: "
                + before + "\n  after:  " + after, before.equals(after));
    }

    private Run twin() {
        Run twin = new Run(check, sentence);
        for (Call call : calls) {
            twin.ask(call.name, call.numbers);
        }
        return twin;
    }

    /** THE ROW becomes these pitches, each of the same length. */
    void write(int length, int... pitches) {
        ask("drop");
        for (int pitch : pitches) {
            ask("note", pitch, length);
        }
    }

    /** THE ROW has just these pitches (what 0) or lengths (what 1). */
    void rowIs(int what, int... wanted) {
        due(wanted.length, "count", 0);
        for (int i = 0; i < wanted.length; i++) {
            due(wanted[i], "at", i, what);
        }
    }

    /** THE ROW is meant; the next row that is written is the answer. */
    void mean(int length, int... pitches) {
        write(length, pitches);
        ask("meant");
    }

    /** The acts have just these numbers (what 0), notes of meant (1), of the answer (2) or costs (3). */
    void actsAre(int what, int... wanted) {
        due(wanted.length, "count", 2);
        for (int i = 0; i < wanted.length; i++) {
            due(wanted[i], "act", i, what);
        }
    }

    /** The pitches are, or are not, a melody: then the one that as many are ahead of as of them. */
    void melodyIs(boolean wanted, int... pitches) {
        write(24, pitches);
        long k = ask("place");
        boolean found = ask("melody", k) == 1;
        for (int i = 0; found && i < pitches.length; i++) {
            found = ask("at", i, 0) == pitches[i];
        }
        check.isTrue(sentence + ": " + Arrays.toString(pitches) + (wanted ? " is" : " is not") + " a melody",
                found == wanted);
    }

    /** A number that is set and answers what it was: refused just outside its bounds, taken at and inside them. */
    void setFrom(int least, int most, int first, String name, int way) {
        refused(EarSchool.BAD, name, way, least - 1);
        due(first, name, way, least);
        due(least, name, way, least + 1);
        due(least + 1, name, way, most - 1);
        due(most - 1, name, way, most);
        refused(EarSchool.BAD, name, way, most + 1);
        due(most, name, way, first);
    }

    /** Every pitch of the range and every step may stand in a melody. */
    void freeMelodies(int low, int high, int n) {
        ask("range", low, high, n);
        ask("bits", 0, 4095);
        ask("bits", 1, 4095);
        ask("bits", 2, 4095);
        ask("bits", 3, (1 << 25) - 1);
        ask("bound", 0, 13);
        ask("bound", 1, 15);
    }
}
