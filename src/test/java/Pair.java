import java.lang.reflect.InvocationTargetException;
import java.lang.reflect.Method;

/** A new object of the program and a new model, on which the same calls are made. */
final class Pair {
    private static final int MOST_CALLS = 512;
    private final SpanSpotter program = new SpanSpotter();
    final Model model = new Model();
    private final Due due;
    private final StringBuilder log = new StringBuilder();
    private int calls;

    Pair(Due due) {
        this.due = due;
    }

    /** How many calls more the document promises something about. */
    int callsLeft() {
        return MOST_CALLS - calls;
    }

    /** Makes one call on both, and returns the model's answer; a wrong answer ends the test. */
    long call(String name, int... arguments) throws ReflectiveOperationException {
        calls++;
        Class<?>[] types = new Class<?>[arguments.length];
        Object[] values = new Object[arguments.length];
        StringBuilder words = new StringBuilder(name).append('(');
        for (int i = 0; i < arguments.length; i++) {
            types[i] = int.class;
            values[i] = arguments[i];
            words.append(i == 0 ? "" : ", ").append(arguments[i]);
        }
        words.append(')');
        long want = answer(Model.class.getDeclaredMethod(name, types), model, values);
        int wrongBefore = due.wrong();
        try {
            due.is(words.toString(),
                    answer(SpanSpotter.class.getMethod(name, types), program, values), want);
        } catch (InvocationTargetException e) {
            due.holds(words + " threw " + e.getCause(), false);
        }
        if (due.wrong() > wrongBefore) {
            System.out.println("  after " + log);
            due.end();
        }
        log.append(words).append(" = ").append(want).append("; ");
        return want;
    }

    private static long answer(Method method, Object object, Object[] values)
            throws ReflectiveOperationException {
        return ((Number) method.invoke(object, values)).longValue();
    }

    void type(String text) throws ReflectiveOperationException {
        for (int i = 0; i < text.length(); i++) {
            call("type", text.charAt(i));
        }
    }
}
