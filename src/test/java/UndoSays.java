import java.util.ArrayList;
import java.util.List;

/** The sentences of "Undo" in "Description", and the examples and constants behind it. */
final class UndoSays {
    private static final String[] SUCCESSFUL = {
        "lays(1, 0, 99)", "lays(1, 1, 30)", "lays(1, 2, 9)", "lays(1, 3, 1)", "sets(0, 60)",
        "sets(1, 20)", "sets(2, 20)", "sets(3, 200)", "sets(4, 8)", "sets(5, 9)", "puts(1, 0)",
        "puts(0, 5)", "takes(0)", "moves(10, 9)", "builds()", "reads()"};
    private static final String[] NOT_UNDONE = {
        "type(59)", "clear()", "place(0, 0)", "flaw(0, 0)", "room(1)", "nearest(0)", "pull(4)",
        "cheapest(0)", "spot(0, 0)", "through(0)", "otherwise(4, 8)", "upper()", "lower()",
        "all(0)", "told(0)", "digest()", "lays(1, 0, 0)", "lays(1, 0, 100)", "sets(0, 12)",
        "sets(0, 61)", "puts(0, 3)", "puts(0, 6)", "takes(1)", "takes(11)", "moves(0, 4)",
        "moves(0, 11)"};
    private final Sentences d;

    private UndoSays(Sentences d) {
        this.d = d;
    }

    static void tell(Sentences d) {
        UndoSays u = new UndoSays(d);
        d.in("Description");
        d.names("Undo");
        u.saves();
        u.sixStates();
        u.examples();
        u.constants();
        d.names("The constructor and the methods follow, a promise each: the signature, then what it"
                + " does.");
    }

    /** Towers at 0, 4 and 10, with a text that can be read. */
    private static SpanSpotter planned() {
        SpanSpotter s = new SpanSpotter();
        Due.types(s, "g9,8,7;r3;");
        s.puts(0, 3);
        s.puts(4, 1);
        s.puts(10, 5);
        return s;
    }

    private void saves() {
        Due due = d.says("Each successful call of a method whose description says that it can be"
                + " undone saves the state before it: the profile, the settings and the present"
                + " plan.");
        for (String call : SUCCESSFUL) {
            SpanSpotter s = planned();
            List<Long> before = Look.at(s);
            List<Integer> cheapest = Look.cheapest(s);
            due.holds(call + " is no error", Due.call(s, call) >= 0);
            due.is("saved after " + call, s.told(4), 4);
            due.holds(call + " changes something", !Look.at(s).equals(before));
            due.is("back() after " + call, s.back(), 3);
            due.same("what is told then", Look.at(s), before);
            due.same("the cheapest then", Look.cheapest(s), cheapest);
        }
        for (String call : NOT_UNDONE) {
            SpanSpotter s = planned();
            Due.call(s, call);
            due.is("saved after " + call, s.told(4), 3);
            due.is("back() after " + call, s.back(), 2);
            due.same("the plan then", Look.plan(s), "0:3 4:1");
        }
        // A text with a fault saves nothing.
        SpanSpotter s = planned();
        s.type('x');
        due.run(s, "reads() = -20; told(4) = 3; back() = 2; all(0) = 2");
    }

    private void sixStates() {
        Due due = d.says("At most 6 states are saved; the oldest ones are lost.");
        // Six changes can all be undone, of seven the first one not.
        due.runNew("puts(0, 0) = 1; puts(0, 1) = 1; puts(0, 2) = 1; puts(0, 3) = 1; puts(0, 4) = 1;"
                + "puts(0, 5) = 1; told(4) = 6; back() = 5; back() = 4; back() = 3; back() = 2;"
                + "back() = 1; back() = 0; place(0, 4) = -1; back() = -3");
        due.runNew("puts(0, 0) = 1; puts(0, 1) = 1; puts(0, 2) = 1; puts(0, 3) = 1; puts(0, 4) = 1;"
                + "puts(0, 5) = 1; puts(1, 0) = 2; told(4) = 6; back() = 5; all(0) = 1; back() = 4;"
                + "place(0, 4) = 4; back() = 3; place(0, 4) = 3; back() = 2; place(0, 4) = 2;"
                + "back() = 1; place(0, 4) = 1; back() = 0; place(0, 4) = 0; back() = -3;"
                + "place(0, 4) = 0; told(1) = 1");
        // Back and forth, past the end of six again and again, beside a plain list.
        SpanSpotter s = new SpanSpotter();
        List<Integer> saved = new ArrayList<>();
        int now = 0;
        for (int i = 1; i <= 120; i++) {
            if (i % 7 < 4) {
                saved.add(now);
                now = i % 99 + 1;
                due.is("lays", s.lays(3, 0, now), saved.get(saved.size() - 1));
                if (saved.size() > 6) {
                    saved.remove(0);
                }
            } else if (saved.isEmpty()) {
                due.is("back() of none", s.back(), SpanSpotter.NO);
            } else {
                now = saved.remove(saved.size() - 1);
                due.is("back()", s.back(), saved.size());
            }
            due.is("ground", s.place(3, 0), now);
            due.is("saved", s.told(4), saved.size());
        }
    }

    private void examples() {
        String words = d.words();
        String from = "Examples: Each of them begins with a new object; the results are given"
                + " behind the calls.";
        Due due = d.says(from);
        int begin = words.indexOf(from);
        int end = words.indexOf("The constants:");
        if (begin < 0 || end < begin) {
            due.holds("the examples stand before the constants", words.isEmpty());
            return;
        }
        String[] examples = words.substring(begin + from.length(), end).trim().split("(?<=\\.) (?=\\d\\. )");
        due.is("examples", examples.length, 5);
        for (String example : examples) {
            d.names(example);
            String calls = example.substring(example.indexOf(": ") + 2, example.length() - 1);
            due.runNew(calls);
        }
    }

    private void constants() {
        d.names("The constants:");
        Due due = d.says("- `NONE = -1, BAD = -2, NO = -3, FULL = -4`: The value for \"there is"
                + " none\", and the error codes.");
        due.is("NONE", SpanSpotter.NONE, -1);
        due.is("BAD", SpanSpotter.BAD, -2);
        due.is("NO", SpanSpotter.NO, -3);
        due.is("FULL", SpanSpotter.FULL, -4);
    }
}
