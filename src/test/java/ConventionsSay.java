import java.util.ArrayList;
import java.util.List;

/** The sentences of "What it is" and of the conventions in "Description". */
final class ConventionsSay {
    private static final String[] REFUSED_BAD = {
        "type(-1)", "type(128)", "type(-2147483648)", "type(2147483647)",
        "place(-1, 0)", "place(7, 0)", "place(0, -1)", "place(0, 5)",
        "lays(-1, 0, 1)", "lays(7, 0, 1)", "lays(1, -1, 1)", "lays(1, 4, 1)",
        "lays(1, 0, -1)", "lays(1, 0, 100)", "lays(1, 1, -1)", "lays(1, 1, 31)",
        "lays(1, 2, -1)", "lays(1, 2, 10)", "lays(1, 3, -1)", "lays(1, 3, 2)",
        "lays(0, 3, 1)", "lays(6, 3, 1)",
        "sets(-1, 1)", "sets(6, 1)", "sets(0, 0)", "sets(0, 61)", "sets(1, -1)", "sets(1, 21)",
        "sets(2, -1)", "sets(2, 21)", "sets(3, 0)", "sets(3, 201)", "sets(4, 0)", "sets(4, 9)",
        "sets(5, -1)", "sets(5, 10)",
        "puts(-1, 0)", "puts(7, 0)", "puts(1, -1)", "puts(1, 6)", "takes(-1)", "takes(7)",
        "moves(-1, 1)", "moves(7, 1)", "moves(0, -1)", "moves(6, 7)",
        "flaw(-1, 0)", "flaw(0, -1)", "flaw(0, 2)", "room(-1)", "room(7)", "nearest(-1)",
        "nearest(7)", "pull(-1)", "pull(7)", "cheapest(-1)", "cheapest(4)", "spot(-1, 0)",
        "spot(0, -1)", "spot(0, 2)", "through(-1)", "through(7)", "otherwise(-1, 1)",
        "otherwise(6, 1)", "otherwise(0, 0)", "otherwise(0, 61)", "otherwise(4, 9)",
        "all(-1)", "all(13)", "told(-1)", "told(5)"};
    private static final String[] REFUSED_NO = {
        "lays(1, 0, 12)", "lays(3, 1, 9)", "lays(4, 2, 7)", "lays(2, 3, 1)", "lays(0, 3, 0)",
        "sets(0, 11)", "sets(1, 5)", "sets(2, 2)", "sets(3, 15)", "sets(4, 4)", "sets(5, 1)",
        "puts(0, 3)", "puts(3, 2)", "takes(1)", "moves(1, 2)", "moves(0, 0)", "moves(1, 1)",
        "moves(0, 3)", "moves(0, 4)", "moves(6, 1)", "room(0)", "room(3)", "nearest(1)",
        "nearest(6)", "pull(0)", "pull(1)", "pull(6)"};

    private final Sentences d;

    private ConventionsSay(Sentences d) {
        this.d = d;
    }

    static void tell(Sentences d) {
        ConventionsSay c = new ConventionsSay(d);
        d.in("What it is");
        d.names("Tower spotting for a power line: towers are placed along a ground profile so that"
                + " the wires clear the ground at the least cost.");
        c.lastCall();
        d.in("Description");
        c.exactly();
        d.names("The class parses profiles from text, lists the flaws of a plan, returns clearances"
                + " and uplifts as fractions, finds the cheapest sound plan, counts plans, finds the"
                + " cheapest plan through each place, and tells what it would cost with another"
                + " setting. Changes can be undone.", "Conventions");
        c.none();
        c.codes();
        c.severalErrors();
        c.noneOnlyWithoutError();
        c.refusedChangesNothing();
        c.refusedByOthers();
        c.lowestTerms();
    }

    private void lastCall() {
        Due due = d.says("An object is used for at most 512 calls after it has been made;"
                + " what later calls answer is free.");
        // All the calls are errors but for the last one, which tells that they were counted.
        SpanSpotter s = new SpanSpotter();
        for (int i = 0; i < 511; i++) {
            s.all(13);
        }
        due.is("the 512th call, told(0)", s.told(0), 511);
        // All of them are changes: the last one is as good as the first.
        s = new SpanSpotter();
        for (int i = 1; i <= 510; i++) {
            due.is("lays " + i, s.lays(5, 0, i % 100), (i - 1) % 100);
        }
        due.is("the 511th call, told(4)", s.told(4), 6);
        due.is("the 512th call, back()", s.back(), 5);
        // Texts that are typed and emptied again do not use up anything.
        s = new SpanSpotter();
        for (int i = 0; i < 255; i++) {
            due.is("type", s.type(103), 1);
            due.is("clear", s.clear(), 1);
        }
        due.is("the 511th call, told(3)", s.told(3), 0);
        due.is("the 512th call, digest()", s.digest(), new SpanSpotter().digest());
    }

    private void exactly() {
        Due due = d.says("Wires hang in parabolas, which are computed exactly.");
        // The room at 5 is 18 - 6 * 5 / 19 - 4 / 197 * 5 * 14 - 15 = -1 / 3743.
        SpanSpotter s = Due.with(
                "g6,0,0,0,0,10,0,0,0,0,0,0,0,0,0,0,0,0,0,0,0;s4,197;r8;");
        due.run(s, "puts(0, 3) = 1; puts(19, 3) = 2; room(5) = 1; upper() = -1; lower() = 3743");
        due.same("flaws", Look.flaws(s), "0:4 0:5 20:1");
        due.run(s, "nearest(0) = 5; upper() = -1; lower() = 3743; lays(5, 1, 4) = 5; room(5) = 1;"
                + "upper() = 3742; lower() = 3743");
        due.same("flaws", Look.flaws(s), "0:4 20:1");
        // The room at 4 is -1 / 455: the only plan that the bars leave is not sound.
        s = Due.with("g1,0,0,0,7,0,0,0;s7,195;r8;f12,0;b1;b2;b3;b4;b5;b6;");
        due.run(s, "cheapest(3) = 0; lays(4, 1, 4) = 5; cheapest(3) = 9; cheapest(0) = 64;"
                + "builds() = 2; room(4) = 1; upper() = 454; lower() = 455; lays(4, 1, 5) = 4;"
                + "room(4) = 1; upper() = -1; lower() = 455; all(2) = 1; flaw(0, 1) = 5");
        // The pull at 5 is 9 / 199 * 12 - 2 / 5 - 1 / 7 = -1 / 6965.
        s = Due.with("g2,0,0,0,0,0,0,0,0,0,0,0,1;s9,199;r7;n0,12,0;f12,0;b6;b7;");
        due.run(s, "puts(0, 3) = 1; puts(5, 0) = 2; puts(12, 3) = 3; pull(5) = 1; upper() = -1;"
                + "lower() = 6965; all(2) = 1; flaw(0, 0) = 5; flaw(0, 1) = 3; cheapest(1) = 3;"
                + "cheapest(0) = 96; spot(1, 0) = 5; spot(1, 1) = 3; lays(12, 0, 0) = 1;"
                + "all(2) = 0; cheapest(0) = 80; spot(1, 1) = 0");
    }

    private void none() {
        Due due = d.says("All values are integers. NONE (-1) means \"there is none\".");
        due.is("NONE", SpanSpotter.NONE, -1);
        due.runNew("place(0, 4) = -1; flaw(2, 0) = -1; spot(4, 0) = -1; told(0) = 0;"
                + "told(1) = 0; told(2) = 0");
        due.run(Due.with("g0,0,0;r1;b1;"), "cheapest(0) = -1; cheapest(1) = -1; through(0) = -1;"
                + "otherwise(4, 1) = -1; all(12) = -1; spot(0, 0) = -1; told(0) = 0; told(1) = 0;"
                + "told(2) = 0");
    }

    private void codes() {
        Due due = d.says("The error codes are BAD (-2: an argument is out of its range, or names a"
                + " place that does not exist), NO (-3: as told by the method) and FULL (-4: a"
                + " capacity is used up).");
        due.is("BAD", SpanSpotter.BAD, -2);
        due.is("NO", SpanSpotter.NO, -3);
        due.is("FULL", SpanSpotter.FULL, -4);
        due.runNew("sets(0, 61) = -2; takes(11) = -2; takes(10) = -3; builds() = 4; builds() = -3");
        SpanSpotter s = new SpanSpotter();
        Due.types(s, "0".repeat(200));
        due.run(s, "type(48) = -4; told(0) = 0; told(1) = 0; told(2) = 1");
    }

    private void severalErrors() {
        // No method of the document can have NO and FULL at once.
        Due due = d.says("If several errors apply to one call, BAD is returned rather than NO, and"
                + " NO rather than FULL.");
        due.runNew("puts(3, 0) = 1; moves(4, 11) = -2; moves(4, -1) = -2; moves(11, 3) = -2;"
                + "moves(-1, 3) = -2; moves(11, 11) = -2; moves(-1, -1) = -2; told(0) = 6;"
                + "told(1) = 0; lays(11, 1, 5) = -2; lays(-1, 0, 0) = -2; lays(11, 3, 0) = -2;"
                + "lays(0, 3, 1) = -2; takes(11) = -2; room(11) = -2; nearest(11) = -2;"
                + "pull(-1) = -2; puts(11, 0) = -2; puts(3, 6) = -2; told(0) = 16; told(1) = 0");
        SpanSpotter s = new SpanSpotter();
        Due.types(s, "g".repeat(200));
        due.run(s, "type(128) = -2; type(-1) = -2; type(127) = -4; told(0) = 2; told(2) = 1");
    }

    private void noneOnlyWithoutError() {
        Due due = d.says("NONE is returned only if no error applies.");
        due.runNew("flaw(99, 2) = -2; flaw(99, -1) = -2; spot(99, 2) = -2; spot(99, -1) = -2;"
                + "place(11, 4) = -2; place(-1, 4) = -2; told(0) = 6");
        due.run(Due.with("g0,0,0;r1;b1;"), "cheapest(4) = -2; cheapest(-1) = -2; spot(-1, 0) = -2;"
                + "spot(0, 2) = -2; spot(0, -1) = -2; through(3) = -2; through(-1) = -2;"
                + "otherwise(4, 9) = -2; otherwise(4, 0) = -2; otherwise(6, 1) = -2; all(13) = -2;"
                + "flaw(-1, 1) = -2; builds() = -3; told(0) = 12; told(1) = 1");
    }

    /** A profile, six saved states, a plan, a fraction, a text and errors of each sort. */
    private static SpanSpotter used() {
        SpanSpotter s = new SpanSpotter();
        Due.reads(s, "g10,12,13,8,2,9,11;r3;s2,15;n3,4,9;b2;p4,7;l1;f11,5;");
        for (String call : new String[] {"puts(3, 0)", "puts(6, 5)", "builds()", "puts(3, 2)",
            "puts(6, 4)", "sets(4, 4)", "room(2)", "clear()", "type(103)", "type(48)",
            "place(9, 9)", "takes(5)"}) {
            Due.call(s, call);
        }
        return s;
    }

    private void refusedChangesNothing() {
        Due due = d.says("A call that returns one of these three error codes changes nothing,"
                + " except that it is counted (told() returns the counts).");
        due.same("the plan of the test", Look.plan(used()), "0:3 3:2 6:4");
        for (String call : REFUSED_BAD) {
            refuses(due, call, SpanSpotter.BAD, "told(5)");
        }
        for (String call : REFUSED_NO) {
            refuses(due, call, SpanSpotter.NO, "takes(5)");
        }
    }

    /** A second object, on which another call was refused in the same way, must stay alike. */
    private static void refuses(Due due, String call, int code, String otherCall) {
        SpanSpotter s = used();
        SpanSpotter other = used();
        List<Long> before = Look.at(s);
        due.is(call, Due.call(s, call), code);
        due.is(otherCall, Due.call(other, otherCall), code);
        due.same("what is told after " + call, Look.at(s), before);
        List<Integer> counts = new ArrayList<>(List.of(1, 1, 0));
        counts.set(-2 - code, counts.get(-2 - code) + 1);
        due.same("the counts after " + call, Look.errors(s), counts);
        staysAlike(due, call, s, other);
    }

    private static void staysAlike(Due due, String call, SpanSpotter s, SpanSpotter other) {
        due.is("digest() after " + call, s.digest(), other.digest());
        due.same("cheapest after " + call, Look.cheapest(s), Look.cheapest(other));
        due.is("reads() after " + call, s.reads(), other.reads());
        for (int i = 0; i <= 6; i++) {
            due.is("back() after " + call, s.back(), other.back());
            due.is("upper() after " + call, s.upper(), other.upper());
            due.is("lower() after " + call, s.lower(), other.lower());
            due.is("digest() further back after " + call, s.digest(), other.digest());
        }
    }

    private void refusedByOthers() {
        Due due = d.says("A call that returns one of these three error codes changes nothing,"
                + " except that it is counted (told() returns the counts).");
        // FULL: the text of 200 bytes stays the same, and can still be read.
        String full = "g1,2,3;r04;" + "r4;".repeat(63);
        SpanSpotter s = new SpanSpotter();
        Due.types(s, full);
        due.run(s, "type(120) = -4; told(3) = 200; told(2) = 1; told(4) = 0; all(4) = 10;"
                + "reads() = 65; told(3) = 200; all(4) = 2; told(0) = 0; told(1) = 0");
        // The cheapest plan is built already, then there is none: builds() saves nothing.
        s = Due.with("g0,0,0,0;");
        due.run(s, "builds() = 2; builds() = -3; told(4) = 2; told(1) = 1; place(0, 4) = 3;"
                + "lays(1, 3, 1) = 0; lays(2, 3, 1) = 0; sets(4, 1) = 4; builds() = -3;"
                + "told(4) = 5; told(1) = 2; place(0, 4) = 3; place(3, 4) = 3; all(0) = 2;"
                + "back() = 4; all(9) = 4");
        // There is no state to go back to.
        s = new SpanSpotter();
        List<Long> before = Look.at(s);
        due.run(s, "back() = -3; back() = -3; told(1) = 2; told(4) = 0; told(0) = 0; told(2) = 0");
        due.same("what is told after back()", Look.at(s), before);
    }

    private void lowestTerms() {
        Due due = d.says("Fractions are in lowest terms with a positive denominator (0 is 0 / 1);"
                + " the methods that compute one return it through upper() and lower().");
        // Rooms of 4 / 2, 0, -4 / 2 and of sevenths above and below 0.
        due.run(Due.with("g0,0,0;f2,0;n0,2,0;s0,200;"), "puts(0, 3) = 1; puts(2, 3) = 2;"
                + "room(1) = 1; upper() = 2; lower() = 1; nearest(0) = 1; upper() = 2; lower() = 1;"
                + "lays(1, 0, 2) = 0; room(1) = 1; upper() = 0; lower() = 1; nearest(0) = 1;"
                + "upper() = 0; lower() = 1; lays(1, 0, 4) = 2; room(1) = 1; upper() = -2;"
                + "lower() = 1; nearest(0) = 1; upper() = -2; lower() = 1; sets(2, 20) = 0;"
                + "room(1) = 1; upper() = -21; lower() = 10; sets(3, 7) = 200; room(1) = 1;"
                + "upper() = -34; lower() = 7; lays(1, 0, 0) = 4; room(1) = 1; upper() = -6;"
                + "lower() = 7; sets(2, 7) = 20; room(1) = 1; upper() = 1; lower() = 1");
        // Pulls of 0 with a sag and without one, whole, and with a denominator of 3 * 7 * 199.
        due.run(Due.with("g0,0,0,0,0,0,0,0,0,0,0;f9,0;s0,200;"), "puts(0, 3) = 1; puts(3, 0) = 2;"
                + "puts(10, 3) = 3; pull(3) = 1; upper() = 0; lower() = 1; sets(2, 20) = 0;"
                + "pull(3) = 1; upper() = 1; lower() = 1; sets(3, 199) = 200; pull(3) = 1;"
                + "upper() = 200; lower() = 199; lays(0, 0, 1) = 0; lays(10, 0, 1) = 0;"
                + "pull(3) = 1; upper() = 2210; lower() = 4179; sets(2, 0) = 20; pull(3) = 1;"
                + "upper() = -10; lower() = 21");
        // sag * 4 - 2 / 2 - 2 / 2 is 0 where the sag is 1 / 2.
        due.run(Due.with("g2,0,0,0,2;s10,20;"), "puts(0, 3) = 1; puts(2, 0) = 2; puts(4, 3) = 3;"
                + "pull(2) = 1; upper() = 0; lower() = 1");
    }
}
