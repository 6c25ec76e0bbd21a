/** The sentences of the promises 8 to 14: the present plan, its flaws, rooms and pulls. */
final class PlanPromises {
    private final Sentences d;

    private PlanPromises(Sentences d) {
        this.d = d;
    }

    static void tell(Sentences d) {
        PlanPromises p = new PlanPromises(d);
        p.puts();
        p.takes();
        p.moves();
        p.movesAnswers();
        p.flaw();
        p.room();
        p.nearest();
        p.nearestAnswers();
        p.pull();
    }

    private void puts() {
        d.in("Promise 8: puts");
        Due due = d.says("Puts a tower at a place of the present plan, in place of the one that may"
                + " be there (also if this causes flaws).");
        due.runNew("puts(0, 3) = 1; puts(0, 0) = 1; place(0, 4) = 0; all(2) = 2; flaw(0, 1) = 1;"
                + "puts(10, 3) = 2; all(2) = 2; lays(5, 3, 1) = 0; puts(5, 2) = 3; all(0) = 3;"
                + "place(5, 4) = 2; told(1) = 0; told(0) = 0");
        due.run(Due.with("g50,0,50;s0,1;"), "builds() = 2; all(2) = 0; puts(1, 0) = 3; all(2) = 1;"
                + "flaw(0, 0) = 1; flaw(0, 1) = 3");
        due = d.says("This can be undone.");
        due.runNew("puts(5, 2) = 1; puts(5, 4) = 1; puts(6, 0) = 2; told(4) = 3; back() = 2;"
                + "place(6, 4) = -1; place(5, 4) = 4; back() = 1; place(5, 4) = 2; back() = 0;"
                + "place(5, 4) = -1; all(0) = 0");
        due = d.says("- `x`: the place");
        due.runNew("puts(0, 0) = 1; puts(10, 0) = 2; puts(-1, 0) = -2; puts(11, 0) = -2;"
                + "place(0, 4) = 0; place(10, 4) = 0");
        due = d.says("- `kind`: its kind, 0 to 5");
        due.runNew("puts(1, 0) = 1; puts(2, 5) = 2; puts(3, -1) = -2; puts(3, 6) = -2;"
                + "place(1, 4) = 0; place(2, 4) = 5; place(3, 4) = -1");
        due = d.says("Returns how many towers there are then;");
        SpanSpotter s = new SpanSpotter();
        for (int x = 10; x >= 0; x--) {
            due.is("puts", s.puts(x, x % 6), 11 - x);
        }
        due.is("in place of another one", s.puts(3, 0), 11);
        due = d.says("BAD if an argument is out of range;");
        due.runNew("puts(-1, 0) = -2; puts(11, 0) = -2; puts(0, -1) = -2; puts(0, 6) = -2;"
                + "puts(11, 6) = -2; puts(2147483647, 0) = -2; puts(-2147483648, 0) = -2;"
                + "puts(0, 2147483647) = -2; puts(0, -2147483648) = -2; told(0) = 9; told(1) = 0;"
                + "all(0) = 0; told(4) = 0");
        due = d.says("NO if there is a tower of this kind at this place already.");
        for (int kind = 0; kind <= 5; kind++) {
            SpanSpotter one = new SpanSpotter();
            due.is("puts", one.puts(7, kind), 1);
            due.is("again", one.puts(7, kind), SpanSpotter.NO);
            due.is("saved", one.told(4), 1);
            due.is("at another place", one.puts(6, kind), 2);
            due.is("another kind", one.puts(7, (kind + 3) % 6), 2);
            due.is("NO so far", one.told(1), 1);
        }
    }

    private void takes() {
        d.in("Promise 9: takes");
        Due due = d.says("Removes a tower of the present plan.");
        due.runNew("puts(0, 3) = 1; puts(5, 0) = 2; puts(10, 4) = 3; takes(5) = 2;"
                + "place(5, 4) = -1; place(0, 4) = 3; place(10, 4) = 4; all(1) = 72; all(3) = 0;"
                + "room(5) = 1; told(1) = 0");
        due = d.says("This can be undone.");
        due.runNew("puts(5, 4) = 1; takes(5) = 0; told(4) = 2; back() = 1; place(5, 4) = 4;"
                + "all(0) = 1");
        due = d.says("- `x`: its place");
        due.runNew("puts(0, 3) = 1; puts(10, 3) = 2; takes(0) = 1; takes(10) = 0");
        due = d.says("Returns how many towers there are then;");
        SpanSpotter s = new SpanSpotter();
        for (int x = 0; x <= 10; x++) {
            s.puts(x, 0);
        }
        for (int x = 0; x <= 10; x++) {
            due.is("takes", s.takes(x), 10 - x);
        }
        due = d.says("BAD if there is no such place;");
        due.runNew("takes(-1) = -2; takes(11) = -2; takes(2147483647) = -2;"
                + "takes(-2147483648) = -2; told(0) = 4; told(1) = 0; told(4) = 0");
        due = d.says("NO if there is no tower.");
        due.runNew("takes(0) = -3; takes(10) = -3; puts(5, 0) = 1; takes(4) = -3; takes(6) = -3;"
                + "takes(5) = 0; takes(5) = -3; told(1) = 5; told(0) = 0; told(4) = 2");
    }

    private void moves() {
        d.in("Promise 10: moves");
        Due due = d.says("Moves a tower of the present plan to another place, without passing other"
                + " towers.");
        for (int kind = 0; kind <= 5; kind++) {
            SpanSpotter s = new SpanSpotter();
            s.puts(5, kind);
            due.is("moves", s.moves(5, 6), 2);
            due.same("plan", Look.plan(s), "6:" + kind);
        }
        SpanSpotter s = new SpanSpotter();
        due.run(s, "puts(2, 3) = 1; puts(5, 1) = 2; puts(8, 4) = 3; moves(5, 7) = 3;"
                + "moves(7, 3) = 3; moves(2, 0) = 2; moves(8, 10) = 1; moves(3, 9) = 1");
        due.same("plan", Look.plan(s), "0:3 9:1 10:4");
        due = d.says("This can be undone.");
        s = new SpanSpotter();
        due.run(s, "puts(0, 3) = 1; puts(5, 1) = 2; moves(5, 10) = 2; told(4) = 3; back() = 2");
        due.same("plan", Look.plan(s), "0:3 5:1");
        due = d.says("- `x`: its place - `y`: its new place");
        due.runNew("puts(0, 5) = 1; moves(0, 10) = 1; place(10, 4) = 5; place(0, 4) = -1;"
                + "moves(10, 0) = 1; place(0, 4) = 5; place(10, 4) = -1; moves(0, 11) = -2;"
                + "moves(0, -1) = -2");
        due = d.says("Returns how many flaws the plan has then;");
        due.runNew("puts(0, 3) = 1; puts(5, 3) = 2; puts(6, 0) = 3; puts(10, 3) = 4; all(2) = 1;"
                + "moves(5, 4) = 0; all(2) = 0; moves(4, 5) = 1; all(2) = 1; lays(4, 3, 1) = 0;"
                + "moves(5, 4) = 1; flaw(0, 1) = 2; moves(4, 1) = 1; flaw(0, 0) = 1;"
                + "flaw(0, 1) = 4; moves(0, 0) = -3; moves(10, 9) = 2; flaw(1, 0) = 10");
    }

    private void movesAnswers() {
        Due due = d.says("BAD if there is no such place;");
        due.runNew("puts(0, 3) = 1; moves(0, 11) = -2; moves(0, -1) = -2; moves(11, 1) = -2;"
                + "moves(-1, 1) = -2; moves(11, 11) = -2; moves(0, 2147483647) = -2;"
                + "moves(0, -2147483648) = -2; moves(2147483647, 0) = -2;"
                + "moves(-2147483648, 0) = -2; moves(1, 11) = -2; told(0) = 10; told(1) = 0;"
                + "told(4) = 1; place(0, 4) = 3");
        due = d.says("NO if there is no tower at x, a tower at y, or a tower between x and y.");
        SpanSpotter s = new SpanSpotter();
        due.run(s, "moves(0, 1) = -3; moves(0, 0) = -3; puts(3, 0) = 1; puts(5, 1) = 2;"
                + "puts(7, 2) = 3; moves(4, 6) = -3; moves(4, 4) = -3; moves(3, 3) = -3;"
                + "moves(3, 5) = -3; moves(5, 3) = -3; moves(3, 6) = -3; moves(7, 4) = -3;"
                + "moves(3, 8) = -3; moves(7, 2) = -3; moves(3, 7) = -3; told(1) = 12;"
                + "told(0) = 0; told(4) = 3");
        due.same("plan", Look.plan(s), "3:0 5:1 7:2");
        // Up to the towers beside it, on both sides, nothing is in the way.
        due.run(s, "moves(5, 6) = 3; moves(6, 4) = 2; moves(3, 0) = 2; moves(7, 10) = 3");
    }

    private void flaw() {
        d.in("Promise 11: flaw");
        d.names("Returns one property of a flaw of the present plan.");
        Due due = d.says("- `k`: the index of the flaw, from 0 on");
        due.runNew("flaw(0, 0) = 0; flaw(1, 0) = 10; flaw(2, 0) = -1; flaw(-1, 0) = -2");
        due = d.says("- `what`: 0: its place; 1: its number, 1 to 5");
        due.run(Due.with("g50,0,60,60,50;b1;r2;f10,0;s0,1;"), "puts(0, 3) = 1; puts(1, 0) = 2;"
                + "puts(4, 0) = 3; flaw(0, 0) = 1; flaw(0, 1) = 2; flaw(1, 0) = 1; flaw(1, 1) = 3;"
                + "flaw(2, 0) = 1; flaw(2, 1) = 4; flaw(3, 0) = 1; flaw(3, 1) = 5; flaw(4, 0) = 4;"
                + "flaw(4, 1) = 1; flaw(5, 0) = -1; flaw(5, 1) = -1");
        due = d.says("Returns the property; NONE if there are not so many flaws;");
        due.runNew("flaw(2, 0) = -1; flaw(2, 1) = -1; flaw(2147483647, 0) = -1; builds() = 4;"
                + "flaw(0, 0) = -1; flaw(0, 1) = -1; takes(0) = 3; flaw(0, 0) = 0; flaw(0, 1) = 1;"
                + "flaw(1, 0) = -1; told(0) = 0; told(1) = 0");
        due = d.says("BAD if k is negative or what is not 0 or 1.");
        due.runNew("flaw(-1, 0) = -2; flaw(-1, 1) = -2; flaw(-2147483648, 0) = -2;"
                + "flaw(0, -1) = -2; flaw(0, 2) = -2; flaw(0, 2147483647) = -2;"
                + "flaw(0, -2147483648) = -2; flaw(5, 2) = -2; flaw(-1, 2) = -2; told(0) = 9;"
                + "builds() = 4; flaw(0, 2) = -2; flaw(-1, 0) = -2; told(0) = 11");
    }

    private void room() {
        d.in("Promise 12: room");
        Due due = d.says("Computes the room at a place between two towers of the present plan.");
        due.runNew("puts(0, 3) = 1; puts(4, 1) = 2; puts(10, 5) = 3; room(1) = 1; upper() = 77;"
                + "lower() = 10; room(3) = 1; upper() = 97; lower() = 10; room(5) = 1;"
                + "upper() = 67; lower() = 6; room(9) = 1; upper() = 83; lower() = 6; told(4) = 3");
        due = d.says("- `x`: the place");
        due.runNew("puts(0, 3) = 1; puts(10, 3) = 2; room(1) = 1; upper() = 61; lower() = 10;"
                + "room(9) = 1; upper() = 61; lower() = 10; room(5) = 1; upper() = 9; lower() = 2;"
                + "room(0) = -3; room(10) = -3");
        due = d.says("Returns 1 (upper() and lower() return the room);");
        due.run(Due.with("g0,5,0;f5,0;n0,2,0;s0,1;"), "puts(0, 3) = 1; puts(2, 3) = 2;"
                + "room(1) = 1; upper() = 0; lower() = 1; lays(1, 0, 6) = 5; upper() = 0;"
                + "room(1) = 1; upper() = -1; lower() = 1");
        due = d.says("BAD if there is no such place;");
        due.runNew("room(-1) = -2; room(11) = -2; room(2147483647) = -2; room(-2147483648) = -2;"
                + "puts(0, 3) = 1; puts(10, 3) = 2; room(-1) = -2; room(11) = -2; told(0) = 6;"
                + "told(1) = 0; upper() = 0; lower() = 1");
        due = d.says("NO if there is a tower at this place, or no tower before it or after it.");
        due.runNew("room(0) = -3; room(5) = -3; room(10) = -3; puts(3, 0) = 1; room(3) = -3;"
                + "room(2) = -3; room(4) = -3; puts(6, 0) = 2; room(3) = -3; room(6) = -3;"
                + "room(2) = -3; room(7) = -3; room(0) = -3; room(10) = -3; told(1) = 12;"
                + "told(0) = 0; upper() = 0; lower() = 1; room(4) = 1; room(5) = 1; told(1) = 12;"
                + "puts(4, 3) = 3; room(4) = -3; room(5) = 1; told(1) = 13");
    }

    private void nearest() {
        d.in("Promise 13: nearest");
        Due due = d.says("Finds the least room of a span of the present plan.");
        due.run(Due.with("g0,0,0,9,0,0;"), "puts(0, 3) = 1; puts(5, 3) = 2; nearest(0) = 3;"
                + "upper() = -13; lower() = 5; lays(1, 0, 10) = 0; nearest(0) = 1; upper() = -17;"
                + "lower() = 5; lays(4, 1, 30) = 5; nearest(0) = 4; upper() = -92; lower() = 5");
        due = d.says("- `x`: the place of the tower at which the span begins");
        due.runNew("puts(0, 3) = 1; puts(4, 3) = 2; puts(10, 3) = 3; nearest(0) = 2;"
                + "upper() = 33; lower() = 5; nearest(4) = 7; upper() = 61; lower() = 10;"
                + "nearest(10) = -3; nearest(2) = -3");
        due = d.says("Returns the place at which the room is least, of several the lowest one"
                + " (upper() and lower() return the room there);");
        // All alike without a sag; alike on both sides of the middle; alike at 1 and 4 by a hill.
        due.run(Due.with("g0,0,0,0,0,0;s0,1;"), "puts(0, 3) = 1; puts(5, 3) = 2; nearest(0) = 1;"
                + "upper() = 7; lower() = 1; sets(2, 1) = 0; nearest(0) = 2; upper() = 1;"
                + "lower() = 1; lays(1, 0, 2) = 0; lays(4, 0, 2) = 0; nearest(0) = 1; upper() = 1;"
                + "lower() = 1; lays(1, 0, 1) = 2; nearest(0) = 2; upper() = 1; lays(4, 0, 3) = 2;"
                + "nearest(0) = 4; upper() = 0; lower() = 1");
        // One place alone.
        due.run(Due.with("g0,0,0;"), "puts(0, 3) = 1; puts(2, 3) = 2; nearest(0) = 1;"
                + "upper() = 69; lower() = 10");
    }

    private void nearestAnswers() {
        Due due = d.says("BAD if there is no such place;");
        due.runNew("nearest(-1) = -2; nearest(11) = -2; nearest(2147483647) = -2;"
                + "nearest(-2147483648) = -2; told(0) = 4; told(1) = 0; upper() = 0; lower() = 1");
        due = d.says("NO if there is no tower at x, no tower after it, or no place between both.");
        due.runNew("nearest(0) = -3; nearest(10) = -3; puts(5, 0) = 1; nearest(5) = -3;"
                + "nearest(4) = -3; puts(6, 0) = 2; nearest(5) = -3; nearest(6) = -3; told(1) = 6;"
                + "upper() = 0; moves(6, 7) = 2; nearest(5) = 6; nearest(6) = -3; nearest(7) = -3;"
                + "told(1) = 8; told(0) = 0; puts(10, 3) = 3; nearest(7) = 8; nearest(10) = -3;"
                + "puts(0, 3) = 4; nearest(0) = 2; nearest(1) = -3");
    }

    private void pull() {
        d.in("Promise 14: pull");
        Due due = d.says("Computes the pull of a tower of the present plan, of whatever kind.");
        for (int kind = 0; kind <= 5; kind++) {
            SpanSpotter s = new SpanSpotter();
            s.puts(2, 5 - kind);
            s.puts(4, kind);
            s.puts(7, 0);
            // 1 / 10 * 5 + (own - other) / 2 + own / 3, in steps of rise above foot.
            int own = kind % 3 * 4;
            int other = (5 - kind) % 3 * 4;
            int sixths = 3 + 3 * (own - other) + 2 * own;
            due.is("pull", s.pull(4), 1);
            due.is("its sixths, kind " + kind, s.upper() * 6, sixths * s.lower());
        }
        due = d.says("- `x`: its place");
        due.runNew("puts(0, 3) = 1; puts(1, 3) = 2; puts(9, 3) = 3; puts(10, 3) = 4; pull(1) = 1;"
                + "upper() = 9; lower() = 10; pull(9) = 1; upper() = 9; lower() = 10; pull(0) = -3;"
                + "pull(10) = -3");
        due = d.says("Returns 1 (upper() and lower() return the pull);");
        due.runNew("puts(0, 3) = 1; puts(5, 3) = 2; puts(10, 3) = 3; pull(5) = 1; upper() = 1;"
                + "lower() = 1; sets(2, 0) = 1; upper() = 1; pull(5) = 1; upper() = 0; lower() = 1;"
                + "lays(0, 0, 1) = 0; pull(5) = 1; upper() = -1; lower() = 5");
        due = d.says("BAD if there is no such place;");
        due.runNew("pull(-1) = -2; pull(11) = -2; pull(2147483647) = -2; pull(-2147483648) = -2;"
                + "told(0) = 4; told(1) = 0; upper() = 0; lower() = 1");
        due = d.says("NO if there is no tower at x, or no tower before it or after it.");
        due.runNew("pull(0) = -3; pull(5) = -3; pull(10) = -3; puts(5, 0) = 1; pull(5) = -3;"
                + "puts(0, 3) = 2; pull(5) = -3; pull(0) = -3; puts(10, 3) = 3; takes(0) = 2;"
                + "pull(5) = -3; pull(10) = -3; puts(0, 3) = 3; pull(0) = -3; pull(10) = -3;"
                + "pull(1) = -3; pull(6) = -3; told(1) = 12; told(0) = 0; upper() = 0; lower() = 1;"
                + "pull(5) = 1; upper() = 1; told(1) = 12");
    }
}
