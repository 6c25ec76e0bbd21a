/** The sentences of "Places and towers" in "Description". */
final class TowersSay {
    private static final String FLAT_20 = "g0,0,0,0,0,0,0,0,0,0,0,0,0,0,0,0,0,0,0,0,0;";
    private final Sentences d;

    private TowersSay(Sentences d) {
        this.d = d;
    }

    static void tell(Sentences d) {
        TowersSay t = new TowersSay(d);
        d.in("Description");
        d.names("Places and towers");
        t.places();
        t.properties();
        t.settings();
        t.sag();
        t.kinds();
        t.heights();
        t.costs();
        t.tops();
        t.spans();
        t.wires();
        t.rooms();
        t.pulls();
    }

    private void places() {
        Due due = d.says("There are places 0 to N, with N from 2 to 20 (10 at first), one step"
                + " apart.");
        due.runNew("all(4) = 10; place(0, 0) = 0; place(10, 0) = 0; place(-1, 0) = -2;"
                + "place(11, 0) = -2; puts(10, 3) = 1; puts(11, 3) = -2; puts(-1, 3) = -2");
        due.run(Due.with("g1,2,3;"), "all(4) = 2; place(0, 0) = 1; place(1, 0) = 2;"
                + "place(2, 0) = 3; place(3, 0) = -2; lays(2, 0, 4) = 3; lays(3, 0, 4) = -2;"
                + "puts(2, 3) = 1; puts(3, 3) = -2; takes(3) = -2; moves(2, 3) = -2; room(3) = -2;"
                + "nearest(3) = -2; pull(3) = -2; through(2) = 64; through(3) = -2");
        due.run(Due.with("g1,2,3,4,5,6,7,8,9,10,11,12,13,14,15,16,17,18,19,20,21;"),
                "all(4) = 20; place(20, 0) = 21; place(19, 0) = 20; place(21, 0) = -2;"
                + "lays(20, 0, 4) = 21; lays(21, 0, 4) = -2; puts(20, 3) = 1; puts(21, 3) = -2;"
                + "takes(21) = -2; moves(20, 21) = -2; room(21) = -2; nearest(21) = -2;"
                + "pull(21) = -2; through(21) = -2; moves(20, 19) = 2");
        due.is("two heights are too few", Due.reads(new SpanSpotter(), "g1,2;"), -14);
        due.is("22 heights are too many", Due.reads(new SpanSpotter(),
                FLAT_20.replace(";", ",0;")), -10 - 42);
        // One step apart: the pull divides by the differences of the places.
        due.runNew("sets(2, 0) = 1; puts(2, 0) = 1; puts(3, 1) = 2; puts(5, 0) = 3; pull(3) = 1;"
                + "upper() = 6; lower() = 1");
    }

    private void properties() {
        Due due = d.says("Each place has a ground height from 0 to 99 (0 at first), a clearance"
                + " from 0 to 30 (5 at first) and a price from 0 to 9 (0 at first), and may be"
                + " barred (at first none is; the places 0 and N cannot be).");
        int[] first = {0, 5, 0};
        int[] most = {99, 30, 9};
        for (int what = 0; what < 3; what++) {
            for (int x = 0; x <= 10; x++) {
                SpanSpotter s = new SpanSpotter();
                due.is("at first", s.place(x, what), first[what]);
                due.is("one below the least", s.lays(x, what, -1), SpanSpotter.BAD);
                due.is("one above the greatest", s.lays(x, what, most[what] + 1), SpanSpotter.BAD);
                due.is("the greatest", s.lays(x, what, most[what]), first[what]);
                due.is("it", s.place(x, what), most[what]);
                due.is("the least", s.lays(x, what, 0), most[what]);
                due.is("it", s.place(x, what), 0);
            }
        }
        for (int x = 0; x <= 10; x++) {
            SpanSpotter s = new SpanSpotter();
            boolean end = x == 0 || x == 10;
            due.is("not barred at first", s.place(x, 3), 0);
            due.is("to bar", s.lays(x, 3, 1), end ? SpanSpotter.BAD : 0);
            due.is("barred", s.place(x, 3), end ? 0 : 1);
        }
        // The last place is the profile's own one.
        due.run(Due.with("g0,0,0;"), "lays(2, 3, 1) = -2; lays(1, 3, 1) = 0; lays(0, 3, 1) = -2");
        due.run(Due.with(FLAT_20), "lays(20, 3, 1) = -2; lays(19, 3, 1) = 0; lays(10, 3, 1) = 0;"
                + "all(11) = 2; place(20, 1) = 5; place(20, 2) = 0; place(20, 3) = 0;"
                + "lays(20, 0, 99) = 0; lays(20, 1, 30) = 5; lays(20, 2, 9) = 0");
    }

    private void settings() {
        Due due = d.says("There are six settings: foot (1 to 60; 12 at first), rise (0 to 20; 4),"
                + " U (0 to 20; 1), L (1 to 200; 10), reach (1 to 8; 4) and lift (0 to 9; 0).");
        int[] first = {12, 4, 1, 10, 4, 0};
        int[] least = {1, 0, 0, 1, 1, 0};
        int[] most = {60, 20, 20, 200, 8, 9};
        for (int what = 0; what < 6; what++) {
            SpanSpotter s = new SpanSpotter();
            due.is("at first", s.all(5 + what), first[what]);
            due.is("one below the least", s.sets(what, least[what] - 1), SpanSpotter.BAD);
            due.is("one above the greatest", s.sets(what, most[what] + 1), SpanSpotter.BAD);
            due.is("unchanged", s.all(5 + what), first[what]);
            due.is("the greatest", s.sets(what, most[what]), first[what]);
            due.is("it", s.all(5 + what), most[what]);
            due.is("the least", s.sets(what, least[what]), most[what]);
            due.is("it", s.all(5 + what), least[what]);
            for (int other = 0; other < 6; other++) {
                due.is("another one", other == what ? first[what] : s.all(5 + other), first[other]);
            }
        }
        due.runNew("sets(6, 1) = -2; sets(-1, 1) = -2");
    }

    private void sag() {
        Due due = d.says("The sag is the fraction U / L.");
        due.runNew("puts(0, 3) = 1; puts(2, 3) = 2; room(1) = 1; upper() = 69; lower() = 10;"
                + "sets(2, 0) = 1; room(1) = 1; upper() = 7; lower() = 1; sets(2, 20) = 0;"
                + "room(1) = 1; upper() = 5; lower() = 1; sets(3, 1) = 10; room(1) = 1;"
                + "upper() = -13; lower() = 1; sets(3, 200) = 1; room(1) = 1; upper() = 69;"
                + "lower() = 10; sets(2, 1) = 20; room(1) = 1; upper() = 1399; lower() = 200");
    }

    private void kinds() {
        Due due = d.says("A tower has a kind from 0 to 5: 0, 1 and 2 are hangers, 3, 4 and 5 are"
                + " anchors.");
        due.runNew("puts(4, -1) = -2; puts(4, 6) = -2; all(0) = 0");
        for (int kind = 0; kind <= 5; kind++) {
            SpanSpotter s = new SpanSpotter();
            due.is("puts", s.puts(4, kind), 1);
            due.is("its kind", s.place(4, 4), kind);
            due.is("hangers", s.all(3), kind <= 2 ? 1 : 0);
            s.takes(4);
            s.puts(0, kind);
            s.puts(10, kind);
            due.same("the ends", Look.flaws(s), kind <= 2 ? "0:1 0:4 10:1" : "0:4");
        }
    }

    private void heights() {
        Due due = d.says("Its height is foot for the kinds 0 and 3, foot + rise for 1 and 4, and"
                + " foot + 2 * rise for 2 and 5.");
        int[][] footAndRise = {{12, 4}, {1, 0}, {60, 20}, {1, 20}, {60, 0}};
        for (int[] pair : footAndRise) {
            for (int kind = 0; kind <= 5; kind++) {
                SpanSpotter s = Due.with("g0,0,0;n0,2,0;s0,1;f" + pair[0] + "," + pair[1] + ";");
                s.puts(0, kind);
                s.puts(2, kind);
                due.is("room", s.room(1), 1);
                due.fraction("room(1)", s, pair[0] + kind % 3 * pair[1], 1);
            }
        }
    }

    private void costs() {
        Due due = d.says("Its cost is 4 + height for a hanger and 2 * (4 + height) for an anchor,"
                + " plus the price of its place.");
        int[][] costs = {{16, 20, 24, 32, 40, 48}, {5, 5, 5, 10, 10, 10}, {64, 84, 104, 128, 168, 208}};
        String[] settings = {"f12,4;", "f1,0;", "f60,20;"};
        for (int i = 0; i < settings.length; i++) {
            for (int kind = 0; kind <= 5; kind++) {
                SpanSpotter s = Due.with("g0,99,0;p1,9;p2,1;" + settings[i]);
                s.puts(0, kind);
                due.is("without a price", s.all(1), costs[i][kind]);
                s.takes(0);
                s.puts(1, kind);
                due.is("the greatest price, once", s.all(1), costs[i][kind] + 9);
                s.puts(2, kind);
                due.is("two towers", s.all(1), 2 * costs[i][kind] + 10);
            }
        }
        // The price counts once in the cheapest plan too.
        due.run(Due.with("g0,0,0;p0,9;p2,9;p1,9;"), "cheapest(0) = 82; through(1) = 107;"
                + "through(0) = 82; otherwise(4, 1) = 107");
    }

    private void tops() {
        Due due = d.says("Its top is the ground height of its place + its height.");
        due.run(Due.with("g99,0,99;n0,2,0;s0,1;f60,20;"), "puts(0, 5) = 1; puts(2, 5) = 2;"
                + "room(1) = 1; upper() = 199; lower() = 1; lays(0, 0, 0) = 99; room(1) = 1;"
                + "upper() = 299; lower() = 2; lays(2, 0, 0) = 99; room(1) = 1; upper() = 100;"
                + "lower() = 1");
        due.run(Due.with("g0,99,0;f1,0;s0,1;"), "puts(0, 3) = 1; puts(1, 0) = 2; puts(2, 3) = 3;"
                + "pull(1) = 1; upper() = 198; lower() = 1; lays(1, 0, 0) = 99;"
                + "lays(0, 0, 99) = 0; lays(2, 0, 99) = 0; pull(1) = 1; upper() = -198; lower() = 1");
    }

    private void spans() {
        Due due = d.says("A span leads from a tower at place a to the next tower at place b;"
                + " its length is b - a.");
        // Lengths of just reach, and of one more; the next tower ends a span, whatever its kind.
        due.runNew("puts(0, 3) = 1; puts(10, 3) = 2; all(2) = 1; puts(4, 0) = 3; all(2) = 1;"
                + "flaw(0, 0) = 4; puts(8, 0) = 4; all(2) = 0; moves(4, 5) = 1; flaw(0, 0) = 0;"
                + "flaw(0, 1) = 4; moves(5, 3) = 1; flaw(0, 0) = 3; flaw(0, 1) = 4;"
                + "sets(4, 5) = 4; all(2) = 0");
        // Towers side by side have a span of length 1, without a place between.
        due.runNew("puts(0, 3) = 1; puts(1, 3) = 2; sets(4, 1) = 4; nearest(0) = -3; all(2) = 1;"
                + "flaw(0, 0) = 10");
    }

    private void wires() {
        Due due = d.says("At a place x between them the wire is as high as the straight line from"
                + " top to top there, minus sag * (x - a) * (b - x).");
        // The longest span with the greatest sag: 160 at 0, 60 at 20, 20 * 10 * 10 below at 10.
        SpanSpotter s = Due.with(FLAT_20 + "n0,20,0;s20,1;f60,20;");
        due.run(s, "puts(0, 5) = 1; puts(20, 3) = 2; room(10) = 1; upper() = -1920; lower() = 1;"
                + "room(1) = 1; upper() = -282; lower() = 1; room(19) = 1; upper() = -318;"
                + "lower() = 1; nearest(0) = 10; upper() = -1920; lays(0, 0, 99) = 0; room(19) = 1;"
                + "upper() = -6261; lower() = 20");
        // A span that does not begin at 0: 12 at 3, 16 at 8; 1 / 10 * 1 * 4 and 2 * 3 below.
        due.runNew("puts(3, 0) = 1; puts(8, 4) = 2; room(4) = 1; upper() = 37; lower() = 5;"
                + "room(6) = 1; upper() = 44; lower() = 5; room(7) = 1; upper() = 49; lower() = 5");
    }

    private void rooms() {
        Due due = d.says("The room of the span at x is this height minus the ground height and the"
                + " clearance of x.");
        due.run(Due.with("g0,0,0;f1,0;s0,1;n0,2,0;"), "puts(0, 3) = 1; puts(2, 3) = 2; room(1) = 1;"
                + "upper() = 1; lays(1, 1, 30) = 0; room(1) = 1; upper() = -29;"
                + "lays(1, 0, 99) = 0; room(1) = 1; upper() = -128; lays(1, 1, 0) = 30;"
                + "room(1) = 1; upper() = -98; lower() = 1; lays(0, 1, 30) = 0; lays(2, 1, 30) = 0;"
                + "room(1) = 1; upper() = -98; lower() = 1");
        due.run(Due.with("g99,0,99;f60,20;s0,1;n1,1,0;"), "puts(0, 2) = 1; puts(2, 5) = 2;"
                + "room(1) = 1; upper() = 199; lower() = 1");
    }

    private void pulls() {
        Due due = d.says("The pull of a tower at b, with the next towers at a before it and at c"
                + " after it, is sag * (c - a) + (top of b - top of a) / (b - a) + (top of b - top of"
                + " c) / (c - b).");
        // The greatest and the least there are.
        due.run(Due.with("g0,99,0;f1,20;s20,1;"), "puts(0, 0) = 1; puts(1, 2) = 2; puts(2, 3) = 3;"
                + "pull(1) = 1; upper() = 318; lower() = 1; sets(2, 0) = 20; puts(1, 0) = 3;"
                + "puts(0, 2) = 3; puts(2, 5) = 3; lays(1, 0, 0) = 99; lays(0, 0, 99) = 0;"
                + "lays(2, 0, 99) = 0; pull(1) = 1; upper() = -278; lower() = 1");
        // Each of the three parts alone: 20 * 20, 8 / 7 and -8 / 13, then all with 1 / 199.
        SpanSpotter s = Due.with(FLAT_20 + "f12,4;s20,1;");
        due.run(s, "puts(0, 3) = 1; puts(7, 0) = 2; puts(20, 3) = 3; pull(7) = 1; upper() = 400;"
                + "lower() = 1; sets(2, 0) = 20; lays(0, 0, 8) = 0; pull(7) = 1; upper() = -8;"
                + "lower() = 7; lays(0, 0, 0) = 8; puts(20, 5) = 3; pull(7) = 1; upper() = -8;"
                + "lower() = 13; puts(7, 4) = 3; sets(2, 1) = 0; sets(3, 199) = 1; pull(7) = 1;"
                + "upper() = 6596; lower() = 18109");
        // The next towers, not the ends.
        due.run(s, "puts(6, 3) = 4; puts(8, 3) = 5; pull(7) = 1; upper() = 1594; lower() = 199");
    }
}
