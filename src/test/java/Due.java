import java.lang.reflect.InvocationTargetException;
import java.lang.reflect.Method;
import java.util.Arrays;

/** Compares answers with those that are due, and ends a test with exit code 1 if one is wrong. */
final class Due {
    private final String test;
    private int wrong;
    private int asked;

    Due(String test) {
        this.test = test;
    }

    void is(String call, long got, long want) {
        asked++;
        if (got != want) {
            wrong++;
            System.out.println(test + ": " + call + " answered " + got + ", due is " + want);
        }
    }

    void holds(String what, boolean condition) {
        asked++;
        if (!condition) {
            wrong++;
            System.out.println(test + ": not so: " + what);
        }
    }

    /** Compares what is told by more than one number: a plan, flaws, a list. */
    void same(String what, Object got, Object want) {
        asked++;
        if (!got.equals(want)) {
            wrong++;
            System.out.println(test + ": " + what + " is " + got + ", due is " + want);
        }
    }

    /** Makes calls in the document's form, such as "puts(0, 3) = 1; told(0) = 0;", in order. */
    void run(SpanSpotter s, String calls) {
        for (String part : calls.split(";")) {
            if (part.isBlank()) {
                continue;
            }
            String[] sides = part.trim().split("\\s*=\\s*");
            is(sides[0], call(s, sides[0]), Long.parseLong(sides[1].trim()));
        }
    }

    /** Makes calls in the document's form on a new object. */
    void runNew(String calls) {
        run(new SpanSpotter(), calls);
    }

    /** Makes one call in the document's form, and returns its answer. */
    static long call(SpanSpotter s, String words) {
        String name = words.substring(0, words.indexOf('('));
        String inside = words.substring(words.indexOf('(') + 1, words.indexOf(')')).trim();
        Object[] arguments = inside.isEmpty() ? new Object[0]
                : Arrays.stream(inside.split(",")).map(String::trim).map(Integer::valueOf).toArray();
        Class<?>[] types = new Class<?>[arguments.length];
        Arrays.fill(types, int.class);
        try {
            Method method = SpanSpotter.class.getMethod(name, types);
            return ((Number) method.invoke(s, arguments)).longValue();
        } catch (NoSuchMethodException | IllegalAccessException | InvocationTargetException e) {
            throw new IllegalStateException("the call " + words + " failed", e);
        }
    }

    /** The fraction that upper() and lower() tell. */
    void fraction(String call, SpanSpotter s, long upper, long lower) {
        is(call + " then upper()", s.upper(), upper);
        is(call + " then lower()", s.lower(), lower);
    }

    int asked() {
        return asked;
    }

    int wrong() {
        return wrong;
    }

    String test() {
        return test;
    }

    void end() {
        System.out.println(test + ": " + asked + " answers, " + wrong + " wrong");
        if (wrong != 0) {
            System.exit(1);
        }
    }

    /** Appends all bytes of a text. */
    static void types(SpanSpotter s, String text) {
        for (int i = 0; i < text.length(); i++) {
            s.type(text.charAt(i));
        }
    }

    /** Replaces the text, and reads it. */
    static int reads(SpanSpotter s, String text) {
        s.clear();
        types(s, text);
        return s.reads();
    }

    /** A new object with the profile of a text. */
    static SpanSpotter with(String text) {
        SpanSpotter s = new SpanSpotter();
        int items = reads(s, text);
        if (items < 1) {
            throw new IllegalStateException("the test's own text has a fault: " + text);
        }
        return s;
    }
}
