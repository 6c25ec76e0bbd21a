import java.math.BigInteger;
import java.util.ArrayList;
import java.util.List;

/** The sentences of the promises 20 to 25: what is told, back() and digest(). */
final class TellPromises {
    private final Sentences d;

    private TellPromises(Sentences d) {
        this.d = d;
    }

    static void tell(Sentences d) {
        TellPromises t = new TellPromises(d);
        t.upper();
        t.lower();
        t.all();
        t.allAbove();
        t.back();
        t.told();
        t.digest();
    }

    private void upper() {
        d.in("Promise 20: upper");
        Due due = d.says("Returns the numerator of the fraction that the last call of room(),"
                + " nearest() or pull() without an error has computed.");
        // Errors, changes and other calls keep it; each of the three replaces it.
        due.runNew("puts(0, 3) = 1; puts(4, 1) = 2; puts(10, 5) = 3; room(2) = 1; upper() = 43;"
                + "room(4) = -3; room(11) = -2; nearest(10) = -3; nearest(11) = -2; pull(0) = -3;"
                + "pull(-1) = -2; upper() = 43; pull(4) = 1; upper() = 4; nearest(4) = 5;"
                + "upper() = 67; takes(4) = 2; upper() = 67; back() = 3; upper() = 67;"
                + "sets(2, 0) = 1; upper() = 67; builds() = 4; upper() = 67; cheapest(0) = 96;"
                + "upper() = 67");
        due = d.says("Returns the numerator; 0 if there has been no such call.");
        due.runNew("upper() = 0; room(5) = -3; nearest(0) = -3; pull(5) = -3; room(11) = -2;"
                + "upper() = 0; puts(0, 3) = 1; puts(10, 3) = 2; upper() = 0");
        // A great one below 0: 20 * 20 / 199 - 40.
        SpanSpotter s = Due.with("g0,0,0,0,0,0,0,0,0,0,0,0,0,0,0,0,0,0,0,0,0;s20,199;f60,20;");
        due.run(s, "puts(0, 5) = 1; puts(1, 0) = 2; puts(20, 3) = 3; pull(1) = 1; upper() = -7560");
    }

    private void lower() {
        d.in("Promise 21: lower");
        Due due = d.says("Returns the denominator of the fraction that the last call of room(),"
                + " nearest() or pull() without an error has computed.");
        due.runNew("puts(0, 3) = 1; puts(4, 1) = 2; puts(10, 5) = 3; room(2) = 1; lower() = 5;"
                + "room(4) = -3; room(11) = -2; nearest(10) = -3; nearest(11) = -2; pull(0) = -3;"
                + "pull(-1) = -2; lower() = 5; pull(4) = 1; lower() = 3; nearest(4) = 5;"
                + "lower() = 6; takes(4) = 2; lower() = 6; back() = 3; lower() = 6;"
                + "sets(2, 0) = 1; lower() = 6; room(2) = 1; lower() = 1");
        due = d.says("Returns the denominator; 1 if there has been no such call.");
        due.runNew("lower() = 1; room(5) = -3; nearest(0) = -3; pull(5) = -3; pull(11) = -2;"
                + "lower() = 1; puts(0, 3) = 1; puts(10, 3) = 2; lower() = 1");
        // A great one: 19 / 199 + 1 / 10 + 1 / 9.
        SpanSpotter s = Due.with("g0,0,0,0,0,0,0,0,0,0,0,0,0,0,0,0,0,0,0,0,0;s1,199;f12,1;");
        due.run(s, "puts(0, 3) = 1; puts(10, 1) = 2; puts(19, 3) = 3; pull(10) = 1; upper() = 5491;"
                + "lower() = 17910");
    }

    private void all() {
        d.in("Promise 22: all");
        d.names("Returns one of several numbers.");
        Due due = d.says("- `what`: 0: towers of the present plan; 1: its cost; 2: its flaws; 3: its"
                + " hangers; 4: N; 5 to 10: the settings foot, rise, U, L, reach and lift; 11:"
                + " barred places;");
        due.runNew("all(0) = 0; all(1) = 0; all(2) = 2; all(3) = 0; all(4) = 10; all(5) = 12;"
                + "all(6) = 4; all(7) = 1; all(8) = 10; all(9) = 4; all(10) = 0; all(11) = 0");
        due.run(Due.with("g0,0,0,0;f60,20;s19,200;r8;l9;b1;b2;"), "puts(0, 0) = 1; puts(1, 1) = 2;"
                + "puts(2, 2) = 3; puts(3, 5) = 4; all(0) = 4; all(1) = 460; all(2) = 4;"
                + "all(3) = 3; all(4) = 3; all(5) = 60; all(6) = 20; all(7) = 19; all(8) = 200;"
                + "all(9) = 8; all(10) = 9; all(11) = 2");
        // All of them barred that can be, and all of them towers.
        SpanSpotter s = Due.with("g0,0,0,0,0,0,0,0,0,0,0,0,0,0,0,0,0,0,0,0,0;");
        for (int x = 0; x <= 20; x++) {
            s.lays(x, 3, 1);
            s.puts(x, 0);
        }
        due.run(s, "all(0) = 21; all(1) = 336; all(2) = 21; all(3) = 21; all(4) = 20; all(11) = 19;"
                + "told(0) = 2");
        due = d.says("Returns the number; BAD if what is not 0 to 12.");
        due.runNew("all(-1) = -2; all(13) = -2; all(2147483647) = -2; all(-2147483648) = -2;"
                + "told(0) = 4; told(1) = 0");
    }

    private void allAbove() {
        Due due = d.says("12: (the cost of the present plan, whether it is sound or not) - (the cost"
                + " of the cheapest plan) + 10000, or NONE if there is no sound plan");
        due.runNew("all(12) = 9904; puts(5, 0) = 1; all(12) = 9920; builds() = 4; all(12) = 10000;"
                + "puts(2, 1) = 4; all(12) = 10004; all(2) = 1; takes(0) = 3; all(12) = 9972;"
                + "sets(4, 1) = 4; all(12) = 9860; sets(4, 8) = 1; all(12) = 9988");
        due.run(Due.with("g0,0,0;r1;b1;"), "all(12) = -1; puts(0, 3) = 1; all(12) = -1;"
                + "told(0) = 0; told(1) = 0; sets(4, 2) = 1; all(12) = 9968");
        // The dearest plan of all, and no plan beside the dearest cheapest plan.
        SpanSpotter s = Due.with("g0,0,0,0,0,0,0,0,0,0,0,0,0,0,0,0,0,0,0,0,0;f60,20;n0,20,0;s0,1;r8;");
        for (int x = 0; x <= 20; x++) {
            s.lays(x, 2, 9);
            s.puts(x, 5);
        }
        due.run(s, "all(1) = 4557; cheapest(0) = 420; all(12) = 14137");
        s = Due.with("g0,99,0,99,0,99,0,99,0,99,0,99,0,99,0,99,0,99,0,99,0;f60,20;l9;r1;s0,1;");
        due.run(s, "cheapest(0) = 2048; all(12) = 7952");
    }

    private void back() {
        d.in("Promise 23: back");
        Due due = d.says("Undoes a call: restores the state that was saved last, which is not saved"
                + " any more then.");
        SpanSpotter s = new SpanSpotter();
        due.run(s, "lays(3, 0, 1) = 0; lays(3, 0, 2) = 1; lays(3, 0, 3) = 2; back() = 2;"
                + "place(3, 0) = 2; told(4) = 2; back() = 1; place(3, 0) = 1; lays(3, 0, 7) = 1;"
                + "told(4) = 2; back() = 1; place(3, 0) = 1; back() = 0; place(3, 0) = 0;"
                + "back() = -3");
        // It cannot be undone itself, and what follows from the state comes back with it.
        due.runNew("cheapest(0) = 96; sets(4, 8) = 4; cheapest(0) = 80; through(5) = 80;"
                + "spot(1, 0) = 2; back() = 0; cheapest(0) = 96; through(5) = 112; spot(1, 0) = 2;"
                + "cheapest(1) = 4; told(4) = 0; all(2) = 2; puts(0, 3) = 1; all(2) = 1; back() = 0;"
                + "all(2) = 2");
        // To another N and to the towers there.
        s = new SpanSpotter();
        Due.types(s, "g1,2,3;r1;");
        due.run(s, "puts(10, 3) = 1; lays(10, 2, 4) = 0; reads() = 2; puts(2, 5) = 1;"
                + "all(4) = 2; back() = 3; all(4) = 2; all(0) = 0; back() = 2; all(4) = 10;"
                + "place(10, 4) = 3; place(10, 2) = 4; all(9) = 4; place(10, 0) = 0");
        due = d.says("The text, the counts of errors, upper() and lower() stay.");
        due.runNew("puts(0, 3) = 1; puts(2, 3) = 2; type(103) = 1; all(13) = -2; takes(1) = -3;"
                + "room(1) = 1; upper() = 69; lower() = 10; back() = 1; back() = 0; upper() = 69;"
                + "lower() = 10; told(0) = 1; told(1) = 1; told(2) = 0; told(3) = 1;"
                + "reads() = -11; back() = -3; upper() = 69; lower() = 10; told(1) = 2");
        s = new SpanSpotter();
        s.puts(0, 3);
        Due.types(s, "z".repeat(201));
        due.run(s, "told(2) = 1; back() = 0; told(2) = 1; told(3) = 200; reads() = -10;"
                + "type(1) = -4; told(2) = 2");
        due = d.says("Returns how many states are still saved;");
        s = new SpanSpotter();
        for (int v = 1; v <= 8; v++) {
            s.lays(0, 0, v);
        }
        for (int still = 5; still >= 0; still--) {
            due.is("back()", s.back(), still);
            due.is("told(4)", s.told(4), still);
        }
        due = d.says("NO if there is none.");
        due.run(s, "back() = -3; told(1) = 1; place(0, 0) = 2; back() = -3; told(1) = 2;"
                + "told(4) = 0; lays(0, 0, 9) = 2; back() = 0; back() = -3; place(0, 0) = 2");
        due.runNew("back() = -3; told(1) = 1; told(0) = 0; reads() = -10; back() = -3");
    }

    private void told() {
        d.in("Promise 24: told");
        d.names("Returns one of several numbers.");
        Due due = d.says("- `what`: 0 to 2: how many calls so far have returned BAD, NO or FULL as an"
                + " error; 3: bytes of the text; 4: saved states");
        SpanSpotter s = new SpanSpotter();
        due.run(s, "told(0) = 0; told(1) = 0; told(2) = 0; told(3) = 0; told(4) = 0; all(13) = -2;"
                + "told(0) = 1; told(1) = 0; told(2) = 0; takes(5) = -3; told(0) = 1; told(1) = 1;"
                + "told(2) = 0");
        Due.types(s, "y".repeat(200));
        due.run(s, "told(3) = 200; type(1) = -4; told(2) = 1; told(1) = 1; told(0) = 1;"
                + "told(3) = 200; puts(0, 3) = 1; told(4) = 1; clear() = 200; told(3) = 0");
        // Answers that look like errors but are none: a numerator of -2, -3 and -4, NONE, a fault.
        due.run(Due.with("g0,7,0;f5,0;s0,1;n0,2,0;"), "puts(0, 3) = 1; puts(2, 3) = 2;"
                + "room(1) = 1; upper() = -2; lays(1, 0, 8) = 7; room(1) = 1; upper() = -3;"
                + "lays(1, 0, 9) = 8; room(1) = 1; upper() = -4; place(1, 4) = -1; flaw(9, 0) = -1;"
                + "told(0) = 0; told(1) = 0; told(2) = 0");
        // Each refused call once, whichever method it is, also the calls that digest() makes: none.
        s = new SpanSpotter();
        s.digest();
        due.run(s, "told(0) = 0; told(1) = 0; told(2) = 0; told(5) = -2; told(0) = 1;"
                + "told(-1) = -2; told(0) = 2");
        s = new SpanSpotter();
        for (int i = 1; i <= 300; i++) {
            s.back();
        }
        due.is("NO 300 times", s.told(1), 300);
        due = d.says("Returns the number; BAD if what is not 0 to 4.");
        due.runNew("told(-1) = -2; told(5) = -2; told(2147483647) = -2; told(-2147483648) = -2;"
                + "told(0) = 4; told(4) = 0; told(0) = 4");
    }

    private void digest() {
        d.in("Promise 25: digest");
        Due due = d.says("Returns a checksum. It begins with h = 2293. For each of the following"
                + " numbers, in this order, h becomes 31 * h + (the number), in long arithmetic with"
                + " overflow:", "Returns h.");
        String[] texts = {"g0,0,0;", "g0,0,0;r1;b1;", "g0,99,0,99,0,99,0;b2;b4;r1;s0,1;l1;",
            "g0,9,20,33,47,60,70,78,83,85,86,85,82,77,70,61,50,38,25,12,0;r5;s1,8;l2;f20,6;"};
        for (String text : texts) {
            due.is("digest() of " + text, Due.with(text).digest(), checksum(Due.with(text)));
            SpanSpotter s = Due.with(text);
            s.puts(0, 0);
            s.puts(2, 1);
            s.all(13);
            s.takes(1);
            long h = s.digest();
            due.is("digest() with towers", h, checksum(s));
            due.is("digest() again", s.digest(), h);
        }
        SpanSpotter s = new SpanSpotter();
        due.is("digest() of a new object", s.digest(), checksum(s));
        Due.types(s, "y".repeat(201));
        due.is("digest() of a full text", s.digest(), checksum(s));
        s = new SpanSpotter();
        s.builds();
        due.is("digest() without flaws", s.digest(), checksum(s));
        due = d.says("told(0) to told(4); all(0) to all(12); for each place x, place(x, 0) to"
                + " place(x, 4); for each flaw k, flaw(k, 0) and flaw(k, 1); cheapest(0) to"
                + " cheapest(3); for each tower k of the cheapest plan, spot(k, 0) and spot(k, 1);"
                + " for each place x, through(x).");
        differs(due, new String[0], "all(13)", "takes(0)", "type(1)", "puts(0, 3)", "lays(0, 0, 1)",
                "lays(1, 1, 1)", "lays(1, 2, 1)", "lays(1, 3, 1)", "sets(0, 1)", "sets(1, 1)",
                "sets(2, 2)", "sets(3, 1)", "sets(4, 1)", "sets(5, 1)");
        differs(due, new String[] {"puts(0, 3)", "puts(4, 0)"}, "takes(4)", "moves(4, 3)",
                "puts(4, 3)", "builds()", "back()", "puts(10, 3)");
        unchanged(due, "cheapest(0)", "upper()", "place(0, 0)", "otherwise(4, 8)", "through(3)",
                "clear()", "reads()", "flaw(9, 0)", "digest()");
    }

    /** The checksum by great numbers, cut to 64 bits at the end alone. */
    private static long checksum(SpanSpotter s) {
        List<Long> numbers = new ArrayList<>();
        for (int what = 0; what <= 4; what++) {
            numbers.add((long) s.told(what));
        }
        List<Long> look = Look.at(s);
        // Without upper() and lower(), which are no part of it.
        numbers.addAll(look.subList(0, look.size() - 2));
        Look.cheapest(s).forEach(number -> numbers.add((long) number));
        BigInteger h = BigInteger.valueOf(2293);
        for (long number : numbers) {
            h = h.multiply(BigInteger.valueOf(31)).add(BigInteger.valueOf(number));
        }
        if (h.bitLength() <= 64) {
            throw new IllegalStateException("the test's own checksum does not overflow");
        }
        return h.longValue();
    }

    private static SpanSpotter after(String[] calls) {
        SpanSpotter s = new SpanSpotter();
        for (String call : calls) {
            Due.call(s, call);
        }
        return s;
    }

    private static void differs(Due due, String[] before, String... calls) {
        for (String call : calls) {
            SpanSpotter s = after(before);
            long first = s.digest();
            Due.call(s, call);
            due.holds("digest() is another one after " + call, s.digest() != first);
            due.is("digest() after " + call, s.digest(), checksum(s));
        }
    }

    private static void unchanged(Due due, String... calls) {
        for (String call : calls) {
            SpanSpotter s = new SpanSpotter();
            long first = s.digest();
            Due.call(s, call);
            due.is("digest() after " + call, s.digest(), first);
        }
    }
}
