import java.util.ArrayList;
import java.util.List;

/** What an object tells of itself, by calls that change nothing and are no errors. */
final class Look {
    private Look() {
    }

    /** The profile, the settings, the plan with its flaws, and the fraction. */
    static List<Long> at(SpanSpotter s) {
        List<Long> told = new ArrayList<>();
        for (int what = 0; what <= 12; what++) {
            told.add((long) s.all(what));
        }
        for (int x = 0; x <= s.all(4); x++) {
            for (int what = 0; what <= 4; what++) {
                told.add((long) s.place(x, what));
            }
        }
        int flaws = s.all(2);
        for (int k = 0; k < flaws; k++) {
            told.add((long) s.flaw(k, 0));
            told.add((long) s.flaw(k, 1));
        }
        told.add(s.upper());
        told.add(s.lower());
        return told;
    }

    /** What is told of the cheapest plan. */
    static List<Integer> cheapest(SpanSpotter s) {
        List<Integer> told = new ArrayList<>();
        for (int what = 0; what <= 3; what++) {
            told.add(s.cheapest(what));
        }
        int towers = s.cheapest(1);
        for (int k = 0; k < towers; k++) {
            told.add(s.spot(k, 0));
            told.add(s.spot(k, 1));
        }
        int n = s.all(4);
        for (int x = 0; x <= n; x++) {
            told.add(s.through(x));
        }
        return told;
    }

    /** The counts of BAD, NO and FULL. */
    static List<Integer> errors(SpanSpotter s) {
        return List.of(s.told(0), s.told(1), s.told(2));
    }

    /** The present plan as places and kinds, such as "0:3 2:0 4:3". */
    static String plan(SpanSpotter s) {
        StringBuilder plan = new StringBuilder();
        for (int x = 0; x <= s.all(4); x++) {
            if (s.place(x, 4) != SpanSpotter.NONE) {
                plan.append(plan.length() == 0 ? "" : " ").append(x).append(':').append(s.place(x, 4));
            }
        }
        return plan.toString();
    }

    /** The cheapest plan in the same form, empty if there is none. */
    static String cheapestPlan(SpanSpotter s) {
        StringBuilder plan = new StringBuilder();
        for (int k = 0; k < s.cheapest(1); k++) {
            plan.append(k == 0 ? "" : " ").append(s.spot(k, 0)).append(':').append(s.spot(k, 1));
        }
        return plan.toString();
    }

    /** The flaws of the present plan as places and numbers, such as "0:1 4:5". */
    static String flaws(SpanSpotter s) {
        StringBuilder flaws = new StringBuilder();
        for (int k = 0; k < s.all(2); k++) {
            flaws.append(k == 0 ? "" : " ").append(s.flaw(k, 0)).append(':').append(s.flaw(k, 1));
        }
        return flaws.toString();
    }
}
