/** The sentences of "Plans" in "Description". */
final class PlansSay {
    private final Sentences d;

    private PlansSay(Sentences d) {
        this.d = d;
    }

    static void tell(Sentences d) {
        PlansSay p = new PlansSay(d);
        d.in("Description");
        d.names("Plans");
        p.oneAtEach();
        p.noTowersAtFirst();
        p.sound();
        p.order();
        p.noAnchor();
        p.onBarred();
        p.pulledTooLittle();
        p.tooLong();
        p.tooLow();
        p.cost();
        p.leastCost();
        p.fewestTowers();
        p.lowerPlaceThenKind();
    }

    private void oneAtEach() {
        Due due = d.says("A plan consists of towers at some places, at most one at each.");
        SpanSpotter s = new SpanSpotter();
        for (int x = 0; x <= 10; x++) {
            due.is("puts", s.puts(x, x % 6), x + 1);
        }
        due.run(s, "all(0) = 11; puts(5, 0) = 11; all(0) = 11; place(5, 4) = 0; takes(5) = 10;"
                + "takes(5) = -3");
        s = Due.with("g0,0,0,0,0,0,0,0,0,0,0,0,0,0,0,0,0,0,0,0,0;f60,20;");
        for (int x = 0; x <= 20; x++) {
            s.lays(x, 2, 9);
            due.is("puts", s.puts(x, 5), x + 1);
        }
        due.run(s, "all(0) = 21; all(1) = 4557; all(3) = 0; all(2) = 0");
    }

    private void noTowersAtFirst() {
        Due due = d.says("There is a present plan, which has no towers at first.");
        due.runNew("all(0) = 0; all(1) = 0; all(3) = 0; all(2) = 2; flaw(0, 0) = 0;"
                + "flaw(0, 1) = 1; flaw(1, 0) = 10; flaw(1, 1) = 1; flaw(2, 0) = -1;"
                + "takes(0) = -3; takes(10) = -3; room(5) = -3; nearest(0) = -3; pull(5) = -3;"
                + "moves(0, 1) = -3");
    }

    private void sound() {
        Due due = d.says("A plan is sound if there are anchors at 0 and at N, there is no tower at a"
                + " barred place, no span is longer than reach, each span has a room of at least 0"
                + " at each place between its towers, and each hanger has a pull of at least lift.");
        // Three anchors at each end, and at 1 nothing or one of six kinds: 3 * 3 * 7.
        String free = "g0,0,0;f12,0;";
        due.is("free", Due.with(free).cheapest(3), 63);
        due.is("barred", Due.with(free + "b1;").cheapest(3), 9);
        due.is("reach 2", Due.with(free + "r2;").cheapest(3), 63);
        due.is("reach 1", Due.with(free + "r1;").cheapest(3), 54);
        due.is("reach 1 and barred", Due.with(free + "r1;b1;").cheapest(3), 0);
        due.is("a room of 0", Due.with(free + "s2,1;n1,1,10;").cheapest(3), 63);
        due.is("a room below 0", Due.with(free + "s2,1;n1,1,11;").cheapest(3), 54);
        due.is("a room of -1 / 200", Due.with(free + "s1,200;n1,1,12;").cheapest(3), 54);
        due.is("a pull of just lift", Due.with(free + "s1,2;l1;").cheapest(3), 63);
        due.is("a pull below lift", Due.with(free + "s1,2;l2;").cheapest(3), 36);
        due.is("a pull 1 / 39 below lift", Due.with(free + "s19,39;l1;").cheapest(3), 36);
        due.is("a pull of 0", Due.with(free + "s0,1;l0;").cheapest(3), 63);
        due.is("a pull below 0", Due.with("g0,0,1;f12,0;s0,1;l0;").cheapest(3), 36);
        // At each place: the second of two places between is too high.
        due.is("one place of two", Due.with("g0,0,99,0;f12,0;b1;b2;").cheapest(3), 0);
        due.is("the other one", Due.with("g0,99,0,0;f12,0;b1;b2;").cheapest(3), 0);
        due.is("neither", Due.with("g0,0,0,0;f12,0;b1;b2;").cheapest(3), 9);
        // What flaws list and what is sound is the same: the built plan has no flaws.
        SpanSpotter s = Due.with(free + "s1,2;l1;r1;");
        due.run(s, "builds() = 3; all(2) = 0; puts(0, 2) = 3; all(2) = 1; puts(0, 3) = 3;"
                + "puts(2, 0) = 3; all(2) = 1");
    }

    private void order() {
        Due due = d.says("The flaws of a plan are listed place by place, from 0 on, and for each"
                + " place in this order:");
        // Hangers on every other place of a line of peaks; those within are barred.
        SpanSpotter s = Due.with("g0,99,0,99,0,99,0;b2;b4;r1;s0,1;l1;");
        due.run(s, "puts(6, 0) = 1; puts(4, 0) = 2; puts(2, 0) = 3; puts(0, 0) = 4");
        due.same("flaws", Look.flaws(s),
                "0:1 0:4 0:5 2:2 2:3 2:4 2:5 4:2 4:3 4:4 4:5 6:1");
        due.run(s, "all(2) = 12; flaw(11, 0) = 6; flaw(11, 1) = 1; flaw(12, 0) = -1");
    }

    private void noAnchor() {
        Due due = d.says("1 the place is 0 or N, and no anchor stands there;");
        due.run(Due.with("g0,0,0;"), "all(2) = 2; flaw(0, 0) = 0; flaw(0, 1) = 1; flaw(1, 0) = 2;"
                + "flaw(1, 1) = 1; puts(0, 2) = 1; all(2) = 2; puts(2, 0) = 2; all(2) = 2;"
                + "puts(0, 3) = 2; all(2) = 1; flaw(0, 0) = 2; puts(2, 1) = 2; all(2) = 1;"
                + "puts(2, 5) = 2; all(2) = 0; puts(0, 0) = 2; all(2) = 1; flaw(0, 0) = 0;"
                + "puts(1, 3) = 3; all(2) = 1; takes(0) = 2; all(2) = 1; flaw(0, 0) = 0");
    }

    private void onBarred() {
        Due due = d.says("2 the place is barred, and a tower stands there;");
        for (int kind = 0; kind <= 5; kind++) {
            SpanSpotter s = Due.with("g0,0,0;b1;");
            s.puts(0, 3);
            s.puts(2, 3);
            due.is("none there", s.all(2), 0);
            s.puts(1, kind);
            due.same("one there", Look.flaws(s), "1:2");
            s.lays(1, 3, 0);
            due.is("not barred any more", s.all(2), 0);
        }
    }

    private void pulledTooLittle() {
        Due due = d.says("3 a hanger stands there, the place is neither 0 nor N, there are towers"
                + " before and after it, and its pull is less than lift;");
        // The pull at 1 is 2 / 5 + 2 - 2 = 2 / 5 with the heights told, and lift is 0, then 1.
        SpanSpotter s = Due.with("g0,2,4;s1,5;");
        due.run(s, "puts(0, 3) = 1; puts(1, 0) = 2; puts(2, 3) = 3; pull(1) = 1; upper() = 2;"
                + "lower() = 5; all(2) = 0; sets(5, 1) = 0; all(2) = 1; flaw(0, 0) = 1;"
                + "flaw(0, 1) = 3; puts(1, 3) = 3; all(2) = 0; puts(1, 2) = 3; all(2) = 0;"
                + "puts(1, 0) = 3; lays(0, 0, 1) = 0; all(2) = 1; sets(5, 0) = 1; all(2) = 1;"
                + "takes(2) = 2; all(2) = 1; flaw(0, 1) = 1; back() = 5; takes(0) = 2; all(2) = 1;"
                + "flaw(0, 0) = 0; flaw(0, 1) = 1");
        // Just lift, at its greatest.
        s = Due.with("g0,0,0;s9,2;l9;");
        due.run(s, "puts(0, 3) = 1; puts(1, 1) = 2; puts(2, 4) = 3; pull(1) = 1; upper() = 13;"
                + "puts(2, 5) = 3; puts(0, 4) = 3; pull(1) = 1; upper() = 5; lower() = 1;"
                + "all(2) = 1; flaw(0, 1) = 3; puts(0, 3) = 3; pull(1) = 1; upper() = 9;"
                + "lower() = 1; all(2) = 0; sets(3, 3) = 2; all(2) = 1");
        // Hangers at 0 and N are pulled too little by nothing.
        s = Due.with("g0,50,0;l9;s0,1;");
        due.run(s, "puts(0, 0) = 1; puts(1, 3) = 2; puts(2, 0) = 3");
        due.same("hangers at the ends", Look.flaws(s), "0:1 2:1");
    }

    private void tooLong() {
        Due due = d.says("4 the span that begins there is longer than reach;");
        SpanSpotter s = new SpanSpotter();
        due.run(s, "puts(1, 3) = 1; puts(5, 3) = 2");
        due.same("just reach", Look.flaws(s), "0:1 10:1");
        due.is("one more", s.moves(5, 6), 3);
        due.same("one more", Look.flaws(s), "0:1 1:4 10:1");
        // At the least and at the greatest reach.
        s = Due.with("g0,0,0,0,0,0,0,0,0,0;r8;f60,0;");
        due.run(s, "puts(0, 3) = 1; puts(8, 3) = 2; flaw(0, 1) = 1; all(2) = 1; moves(8, 9) = 1;"
                + "flaw(0, 0) = 0; flaw(0, 1) = 4; sets(4, 1) = 8; puts(8, 3) = 3; all(2) = 1;"
                + "takes(0) = 2; all(2) = 1; flaw(0, 1) = 1; moves(8, 7) = 2; flaw(1, 0) = 7;"
                + "flaw(1, 1) = 4");
        // There is no span before the first tower and behind the last one.
        due.run(Due.with("g0,0,0,0,0,0;r1;"), "puts(3, 3) = 1; all(2) = 2; flaw(1, 0) = 5;"
                + "flaw(1, 1) = 1");
    }

    private void tooLow() {
        Due due = d.says("5 the span that begins there has a room below 0 at some place.");
        SpanSpotter s = Due.with("g0,0,0,0,0;s1,1;f8,0;");
        due.run(s, "puts(0, 3) = 1; puts(4, 3) = 2; room(1) = 1; upper() = 0; room(2) = 1;"
                + "upper() = -1; room(3) = 1; upper() = 0; all(2) = 1; flaw(0, 0) = 0;"
                + "flaw(0, 1) = 5; lays(2, 1, 4) = 5; room(2) = 1; upper() = 0; all(2) = 0;"
                + "lays(3, 1, 6) = 5; all(2) = 1; flaw(0, 0) = 0; flaw(0, 1) = 5; back() = 4;"
                + "all(2) = 0; lays(1, 0, 1) = 0; all(2) = 1; flaw(0, 1) = 5; puts(1, 3) = 3;"
                + "all(2) = 0");
        // Two places too low are one flaw, and the towers' own places are not looked at.
        due.run(Due.with("g0,0,0,0;f1,0;n0,3,30;s0,1;"), "puts(0, 3) = 1; puts(3, 3) = 2;"
                + "all(2) = 1; flaw(0, 1) = 5");
        due.run(Due.with("g0,0,0;f1,0;n0,2,30;s0,1;"), "puts(0, 3) = 1; puts(1, 3) = 2;"
                + "puts(2, 3) = 3; all(2) = 0");
        // Also a span that is too long, between hangers.
        s = Due.with("g0,0,50,0,0;r2;");
        due.run(s, "puts(1, 0) = 1; puts(4, 0) = 2");
        due.same("flaws", Look.flaws(s), "0:1 1:4 1:5 4:1");
    }

    private void cost() {
        Due due = d.says("The cost of a plan is the sum of the costs of its towers.");
        due.runNew("all(1) = 0; puts(5, 2) = 1; all(1) = 24; puts(0, 4) = 2; all(1) = 64;"
                + "lays(5, 2, 9) = 0; all(1) = 73; lays(6, 2, 9) = 0; all(1) = 73;"
                + "takes(5) = 1; all(1) = 40; takes(0) = 0; all(1) = 0");
    }

    private void leastCost() {
        Due due = d.says("The cheapest plan is the sound plan with the least cost;");
        // Dearer by 1 and with fewer towers: the cost decides. Two at 1 and 3, one at 2.
        SpanSpotter s = Due.with("g0,0,0,0,0;f1,1;n0,4,0;s0,1;r2;p2,6;");
        due.run(s, "cheapest(0) = 30; cheapest(1) = 4");
        due.same("plan", Look.cheapestPlan(s), "0:3 1:0 3:0 4:3");
        // A cheap plan that is not sound does not count.
        due.run(Due.with("g0,20,0;f12,4;r2;"), "cheapest(0) = 80; cheapest(1) = 3");
    }

    private void fewestTowers() {
        Due due = d.says("of several, one with the fewest towers;");
        // 5 + 5 at 2, or 5 at 1 and 5 at 3, which has the lower place first.
        SpanSpotter s = Due.with("g0,0,0,0,0;f1,1;n0,4,0;s0,1;r2;p2,5;");
        due.run(s, "cheapest(0) = 30; cheapest(1) = 3; cheapest(2) = 2");
        due.same("plan", Look.cheapestPlan(s), "0:3 2:0 4:3");
        due.run(s, "lays(2, 2, 6) = 5; cheapest(1) = 4; cheapest(2) = 1; lays(2, 2, 4) = 6;"
                + "cheapest(1) = 3; cheapest(2) = 1");
    }

    private void lowerPlaceThenKind() {
        Due due = d.says("of several, the one that has, at the first tower in which they differ,"
                + " the lower place, or, for the same place, the lower kind.");
        // Kind 1 at 1 or kind 0 at 2, for 18: the place comes before the kind.
        SpanSpotter s = Due.with("g4,0,4,4;s0,1;n0,3,0;r2;f10,4;p2,4;");
        due.run(s, "cheapest(0) = 74; cheapest(2) = 2; cheapest(1) = 3");
        due.same("plan", Look.cheapestPlan(s), "0:3 1:1 3:3");
        due.run(s, "lays(2, 2, 3) = 4; cheapest(2) = 1; spot(1, 0) = 2; spot(1, 1) = 0");
        // The hill at 3 needs the kinds 0 and 2, 1 and 1, or 2 and 0: the first tower decides.
        s = Due.with("g0,0,0,13,0,0,0;s1,1;n0,6,0;r2;f10,4;b1;b3;b5;");
        due.run(s, "cheapest(2) = 3; cheapest(0) = 92");
        due.same("plan", Look.cheapestPlan(s), "0:3 2:0 4:2 6:3");
        // Towers at 1 and 4, or at 2 and 3: the first one decides, not the last.
        s = Due.with("g0,30,0,0,30,0;s1,1;n0,5,0;n1,1,29;n4,4,29;r3;f60,0;");
        due.run(s, "cheapest(0) = 384; cheapest(1) = 4; cheapest(2) = 162");
        due.same("plan", Look.cheapestPlan(s), "0:3 1:0 4:0 5:3");
        // The same place and the same cost: the lowest of three kinds, at each tower.
        s = Due.with("g0,0,0,0,0;f12,0;r2;b1;b3;");
        due.run(s, "cheapest(2) = 27");
        due.same("plan", Look.cheapestPlan(s), "0:3 2:0 4:3");
        // An anchor of kind 3 and a hanger of kind 1 cost the same: the lower kind.
        s = Due.with("g5,0,5;f1,5;s0,1;n0,2,0;r1;");
        due.run(s, "cheapest(0) = 30; cheapest(2) = 2");
        due.same("plan", Look.cheapestPlan(s), "0:3 1:1 2:3");
    }
}
