import java.util.List;

/** The sentences of the promises 15 to 19: the cheapest plan. */
final class CheapestPromises {
    private static final String NO_PLAN = "g0,0,0;r1;b1;";
    private static final String FLAT_20 = "g0,0,0,0,0,0,0,0,0,0,0,0,0,0,0,0,0,0,0,0,0;";
    private final Sentences d;

    private CheapestPromises(Sentences d) {
        this.d = d;
    }

    static void tell(Sentences d) {
        CheapestPromises c = new CheapestPromises(d);
        c.cheapest();
        c.modulus();
        c.cheapestAnswers();
        c.spot();
        c.through();
        c.builds();
        c.otherwise();
        c.otherwiseAnswers();
    }

    private void cheapest() {
        d.in("Promise 15: cheapest");
        Due due = d.says("Tells about the cheapest plan.");
        // Whatever the present plan is.
        due.runNew("cheapest(0) = 96; cheapest(1) = 4; puts(0, 5) = 1; puts(5, 5) = 2;"
                + "cheapest(0) = 96; cheapest(1) = 4; cheapest(2) = 6; cheapest(3) = 182040;"
                + "told(4) = 2; all(0) = 2");
        due = d.says("- `what`: 0: its cost; 1: how many towers it has;");
        // The least and the greatest cost there can be, and from 2 to 21 towers.
        due.run(Due.with("g0,0,0;f1,0;n0,2,0;s0,1;"), "cheapest(0) = 20; cheapest(1) = 2");
        SpanSpotter dear = Due.with("g0,99,0,99,0,99,0,99,0,99,0,99,0,99,0,99,0,99,0,99,0;f60,0;"
                + "l9;r1;s0,200;");
        due.run(dear, "cheapest(1) = 21; cheapest(0) = 2048");
        for (int x = 0; x <= 20; x++) {
            dear.lays(x, 2, 9);
        }
        due.run(dear, "cheapest(0) = 2237; cheapest(1) = 21");
        due.run(Due.with(FLAT_20 + "f12,0;l9;r1;"), "cheapest(0) = 672; cheapest(1) = 21");
    }

    private void modulus() {
        Due due = d.says("2: how many sound plans have this cost, modulo 1000000;");
        // Alike hangers at every place, with reach 1: 9 * 3 ^ (N - 1).
        due.is("3 ^ 12", flat(11).cheapest(2), 531441);
        due.is("3 ^ 13", flat(12).cheapest(2), 594323);
        due.is("3 ^ 14", flat(13).cheapest(2), 782969);
        due.is("3 ^ 21", flat(20).cheapest(2), 353203);
        due.is("none of them costs more", flat(2).cheapest(2), 27);
        due = d.says("3: how many sound plans there are, modulo 1000000");
        // 6 kinds at every place between, with reach 1: 9 * 6 ^ (N - 1).
        due.is("9 * 6 ^ 6", flat(7).cheapest(3), 419904);
        due.is("9 * 6 ^ 7", flat(8).cheapest(3), 519424);
        due.is("9 * 6 ^ 19", flat(20).cheapest(3), (int) (9 * power(6, 19) % 1000000));
        // One less than a million, a million, one more, and whole millions.
        counts(due, "g0,1,1,0,0,1,1,1,0,0;f7,2;s1,10;r6;l1;n0,9,5;b5;", 999999, 1);
        counts(due, "g3,0,0,3,0,2,0,1,0,1;f4,2;s0,5;r6;l0;n0,9,2;b2;", 1000000, 2);
        counts(due, "g0,0,0,0,0,0,0,0,0;f4,1;s2,3;r6;l2;n0,8,0;", 1000001, 3);
        counts(due, "g1,0,1,1,2,2,2,1,2,1,0,2,0,0;f5,3;s2,6;r6;l0;n0,13,4;b1;", 1228000000, 8);
    }

    /** The model counts without a modulus; also 0 of them modulo 1000000 are sound plans. */
    private static void counts(Due due, String text, int every, int same) {
        ModelText model = new ModelText(text);
        due.holds("the model reads the text", model.read() > 0);
        Model.Result result = Model.bySteps(model.state, 0);
        due.is("the model's sound plans", result.every.longValueExact(), every);
        due.is("the model's cheapest ones", result.same.longValueExact(), same);
        SpanSpotter s = Due.with(text);
        due.is("cheapest(3)", s.cheapest(3), every % 1000000);
        due.is("cheapest(2)", s.cheapest(2), same);
        due.is("cheapest(0)", s.cheapest(0), result.cost);
        due.is("builds()", s.builds(), result.best.size());
        due.run(s, "all(2) = 0; all(12) = 10000; builds() = -3");
    }

    private static SpanSpotter flat(int n) {
        return Due.with("g0" + ",0".repeat(n) + ";f1,0;n0," + n + ",0;s0,1;r1;");
    }

    private static long power(long base, int exponent) {
        return exponent == 0 ? 1 : base * power(base, exponent - 1);
    }

    private void cheapestAnswers() {
        Due due = d.says("Returns the value asked for; if there is no sound plan, NONE for 0 and 1,"
                + " and 0 for 2 and 3;");
        due.run(Due.with(NO_PLAN), "cheapest(0) = -1; cheapest(1) = -1; cheapest(2) = 0;"
                + "cheapest(3) = 0; told(0) = 0; told(1) = 0; lays(1, 3, 0) = 1; cheapest(0) = 80;"
                + "cheapest(1) = 3; cheapest(2) = 1; cheapest(3) = 43; back() = 1;"
                + "cheapest(0) = -1; cheapest(1) = -1; cheapest(2) = 0; cheapest(3) = 0");
        // No sound plan for other reasons: a bar too long to cross, a hill too high.
        due.run(Due.with(FLAT_20 + "r2;b9;b10;"), "cheapest(0) = -1; cheapest(3) = 0;"
                + "sets(4, 3) = 2; cheapest(0) = 160");
        due.run(Due.with("g0,99,0;b1;"), "cheapest(1) = -1; cheapest(2) = 0; lays(1, 0, 0) = 99;"
                + "cheapest(1) = 2; cheapest(2) = 1");
        due = d.says("BAD if what is not 0 to 3.");
        due.runNew("cheapest(-1) = -2; cheapest(4) = -2; cheapest(2147483647) = -2;"
                + "cheapest(-2147483648) = -2; told(0) = 4; told(1) = 0");
        due.run(Due.with(NO_PLAN), "cheapest(-1) = -2; cheapest(4) = -2; told(0) = 2");
    }

    private void spot() {
        d.in("Promise 16: spot");
        d.names("Returns one property of a tower of the cheapest plan.");
        Due due = d.says("- `k`: the index of the tower, from 0 on, in ascending order of the"
                + " places");
        due.runNew("spot(0, 0) = 0; spot(1, 0) = 2; spot(2, 0) = 6; spot(3, 0) = 10;"
                + "spot(4, 0) = -1; spot(-1, 0) = -2");
        SpanSpotter s = flat(20);
        for (int k = 0; k <= 20; k++) {
            due.is("place", s.spot(k, 0), k);
            due.is("kind", s.spot(k, 1), k == 0 || k == 20 ? 3 : 0);
        }
        due.run(s, "spot(21, 0) = -1; spot(21, 1) = -1");
        due = d.says("- `what`: 0: its place; 1: its kind");
        due.run(Due.with("g0,20,0;f12,4;r2;"), "spot(0, 0) = 0; spot(0, 1) = 3; spot(1, 0) = 1;"
                + "spot(1, 1) = 0; spot(2, 0) = 2; spot(2, 1) = 3; spot(0, 2) = -2");
        due.run(Due.with("g0,20,0;f21,4;b1;"), "spot(0, 0) = 0; spot(0, 1) = 4; spot(1, 0) = 2;"
                + "spot(1, 1) = 5; cheapest(0) = 124; cheapest(2) = 2");
        due = d.says("Returns the property; NONE if there are not so many towers or there is no sound"
                + " plan;");
        due.runNew("spot(4, 0) = -1; spot(4, 1) = -1; spot(2147483647, 0) = -1; told(0) = 0;"
                + "puts(0, 3) = 1; puts(1, 3) = 2; puts(2, 3) = 3; puts(3, 3) = 4; puts(4, 3) = 5;"
                + "spot(4, 0) = -1");
        due.run(Due.with(NO_PLAN), "spot(0, 0) = -1; spot(0, 1) = -1; spot(1, 0) = -1;"
                + "puts(0, 3) = 1; spot(0, 0) = -1; told(0) = 0; told(1) = 0");
        // A plan was there, and is no more.
        due.run(Due.with("g0,0,0;"), "spot(0, 0) = 0; spot(1, 0) = 2; sets(4, 1) = 4;"
                + "spot(1, 0) = 1; spot(2, 0) = 2; lays(1, 3, 1) = 0; spot(0, 0) = -1;"
                + "spot(1, 0) = -1; spot(2, 0) = -1");
        due = d.says("BAD if k is negative or what is not 0 or 1.");
        due.runNew("spot(-1, 0) = -2; spot(-1, 1) = -2; spot(-2147483648, 0) = -2;"
                + "spot(0, -1) = -2; spot(0, 2) = -2; spot(0, 2147483647) = -2;"
                + "spot(0, -2147483648) = -2; spot(9, 2) = -2; told(0) = 8");
        due.run(Due.with(NO_PLAN), "spot(-1, 0) = -2; spot(0, 2) = -2; spot(0, -1) = -2;"
                + "told(0) = 3");
    }

    private void through() {
        d.in("Promise 17: through");
        Due due = d.says("Returns the least cost of a sound plan with a tower at a place.");
        due.runNew("through(0) = 96; through(1) = 112; through(2) = 96; through(3) = 96;"
                + "through(4) = 96; through(5) = 112; through(6) = 96; through(7) = 96;"
                + "through(8) = 96; through(9) = 112; through(10) = 96; lays(3, 2, 9) = 0;"
                + "through(3) = 105; through(4) = 96; puts(3, 0) = 1; through(3) = 105");
        // A hanger at 2 is pulled too little there, with whatever is beside it: an anchor.
        due.run(Due.with("g30,0,0,0,30;s0,1;r4;n0,4,0;f10,5;"), "cheapest(0) = 56;"
                + "through(0) = 56; through(2) = 84; through(4) = 56");
        // The pull of a hanger at 2 is just lift, then less: what leads to it counts too.
        due.run(Due.with("g0,0,0,0,0;s1,2;l2;r2;n0,4,0;f9,0;b1;b3;"), "through(2) = 65;"
                + "through(4) = 65; sets(5, 3) = 2; through(2) = 78; through(4) = 78;"
                + "sets(5, 2) = 3; lays(0, 0, 1) = 0; through(2) = 78; through(4) = 78;"
                + "lays(2, 0, 1) = 0; through(2) = 65; through(4) = 65");
        due = d.says("- `x`: the place");
        due.run(Due.with("g0,0,0;p1,1;"), "through(0) = 64; through(1) = 81; through(2) = 64;"
                + "through(3) = -2; through(-1) = -2");
        due.run(Due.with(FLAT_20 + "r8;"), "through(0) = 96; through(20) = 96; through(21) = -2;"
                + "through(10) = 112; through(1) = 112; through(4) = 96; through(3) = 112");
        due = d.says("Returns the cost; NONE if there is no such plan;");
        due.run(Due.with(NO_PLAN), "through(0) = -1; through(1) = -1; through(2) = -1;"
                + "lays(1, 3, 0) = 1; through(0) = 80; through(1) = 80; through(2) = 80;"
                + "told(0) = 0; told(1) = 0");
        // There are sound plans, but none through a barred place; or none beside a hill at all.
        due.run(Due.with("g0,0,0;b1;"), "through(0) = 64; through(1) = -1; through(2) = 64;"
                + "lays(1, 3, 0) = 1; through(1) = 80; back() = 1; through(1) = -1");
        due.run(Due.with("g0,0,99,0,0,0;r4;b2;"), "through(0) = -1; through(1) = -1;"
                + "through(5) = -1");
        due.run(Due.with("g0,0,10,0,0;b2;n2,2,30;f30,5;s0,1;r4;"), "through(0) = 176;"
                + "through(1) = 200; through(2) = -1; through(3) = 200; through(4) = 176");
        due = d.says("BAD if there is no such place.");
        due.runNew("through(-1) = -2; through(11) = -2; through(2147483647) = -2;"
                + "through(-2147483648) = -2; told(0) = 4; told(1) = 0");
        due.run(Due.with(NO_PLAN), "through(3) = -2; through(-1) = -2; told(0) = 2");
    }

    private void builds() {
        d.in("Promise 18: builds");
        Due due = d.says("Makes the cheapest plan the present one.");
        SpanSpotter s = new SpanSpotter();
        due.is("builds()", s.builds(), 4);
        due.same("plan", Look.plan(s), "0:3 2:0 6:0 10:3");
        due.run(s, "all(1) = 96; all(2) = 0; all(3) = 2; all(12) = 10000; puts(1, 0) = 5;"
                + "puts(2, 5) = 5; takes(0) = 4; builds() = 4");
        due.same("plan", Look.plan(s), "0:3 2:0 6:0 10:3");
        due = d.says("This can be undone.");
        s = new SpanSpotter();
        due.run(s, "puts(1, 0) = 1; builds() = 4; told(4) = 2; back() = 1");
        due.same("plan", Look.plan(s), "1:0");
        due = d.says("Returns how many towers it has;");
        due.is("2 towers", Due.with("g0,0,0;").builds(), 2);
        due.is("3 towers", Due.with("g0,0,0;r1;").builds(), 3);
        due.is("21 towers", Due.with(FLAT_20 + "r1;").builds(), 21);
        due = d.says("NO if there is no sound plan, or if it is the present plan already.");
        due.run(Due.with(NO_PLAN), "builds() = -3; all(0) = 0; puts(0, 3) = 1; builds() = -3;"
                + "all(0) = 1; told(1) = 2; told(4) = 2");
        // Built by hand; another kind, another place, a tower more or less is another plan.
        due.run(Due.with("g0,0,0,0,0,0;"), "puts(0, 3) = 1; builds() = 3; builds() = -3;"
                + "takes(1) = 2; builds() = 3; moves(1, 2) = 0; builds() = 3; puts(1, 3) = 3;"
                + "builds() = 3; puts(3, 0) = 4; builds() = 3; puts(5, 4) = 3; puts(5, 3) = 3;"
                + "builds() = -3; told(1) = 2; told(4) = 6");
        due.run(Due.with("g0,0,0;"), "puts(0, 3) = 1; puts(2, 3) = 2; builds() = -3;"
                + "puts(2, 4) = 2; builds() = 2; puts(0, 4) = 2; builds() = 2; puts(0, 0) = 2;"
                + "builds() = 2; sets(4, 1) = 4; builds() = 3; builds() = -3");
    }

    private void otherwise() {
        d.in("Promise 19: otherwise");
        Due due = d.says("Returns the cost that the cheapest plan would have if a setting had another"
                + " value.");
        // As sets() and cheapest() tell it, for the least and the greatest of each setting.
        int[][] bounds = {{1, 60}, {0, 20}, {0, 20}, {1, 200}, {1, 8}, {0, 9}};
        String profile = "g8,12,30,8,2,9,11,0,4;s2,15;n3,4,9;b2;p4,7;l1;f11,5;";
        for (int what = 0; what < 6; what++) {
            for (int v : bounds[what]) {
                SpanSpotter s = Due.with(profile);
                int answer = s.otherwise(what, v);
                s.sets(what, v);
                due.is("otherwise(" + what + ", " + v + ")", answer, s.cheapest(0));
            }
        }
        due.runNew("otherwise(0, 1) = 51; otherwise(0, 60) = 384; otherwise(1, 0) = 96;"
                + "otherwise(4, 1) = 208; otherwise(4, 8) = 80; otherwise(5, 9) = 128;"
                + "otherwise(2, 20) = 100; otherwise(2, 0) = 96; otherwise(3, 1) = 96;"
                + "otherwise(3, 200) = 96");
        due = d.says("Nothing changes.");
        SpanSpotter s = new SpanSpotter();
        due.run(s, "puts(0, 3) = 1; puts(4, 1) = 2; room(2) = 1");
        List<Long> before = Look.at(s);
        List<Integer> cheapest = Look.cheapest(s);
        for (int what = 0; what < 6; what++) {
            s.otherwise(what, bounds[what][0]);
            s.otherwise(what, bounds[what][1]);
        }
        due.same("what is told", Look.at(s), before);
        due.same("the cheapest", Look.cheapest(s), cheapest);
        due.run(s, "otherwise(4, 1) = 208; spot(1, 0) = 2; otherwise(4, 1) = 208; through(5) = 112;"
                + "otherwise(4, 1) = 208; builds() = 4; otherwise(4, 1) = 208; builds() = -3;"
                + "told(0) = 0; told(1) = 1; told(4) = 3");
        due = d.says("- `what`: the setting, as for sets() - `v`: its value, which may be the present"
                + " one");
        due.runNew("otherwise(0, 12) = 96; otherwise(1, 4) = 96; otherwise(2, 1) = 96;"
                + "otherwise(3, 10) = 96; otherwise(4, 4) = 96; otherwise(5, 0) = 96;"
                + "told(1) = 0; told(0) = 0; otherwise(-1, 1) = -2; otherwise(6, 1) = -2");
    }

    private void otherwiseAnswers() {
        Due due = d.says("Returns the cost; NONE if there would be no sound plan;");
        due.run(Due.with(NO_PLAN), "otherwise(4, 1) = -1; otherwise(4, 2) = 64;"
                + "otherwise(0, 60) = -1; otherwise(5, 9) = -1; cheapest(0) = -1; sets(4, 2) = 1;"
                + "cheapest(0) = 64; otherwise(4, 1) = -1; cheapest(0) = 64; otherwise(4, 2) = 64;"
                + "told(0) = 0; told(1) = 0");
        due = d.says("BAD if an argument is out of range.");
        due.runNew("otherwise(-1, 1) = -2; otherwise(6, 1) = -2; otherwise(0, 0) = -2;"
                + "otherwise(0, 61) = -2; otherwise(1, -1) = -2; otherwise(1, 21) = -2;"
                + "otherwise(2, -1) = -2; otherwise(2, 21) = -2; otherwise(3, 0) = -2;"
                + "otherwise(3, 201) = -2; otherwise(4, 0) = -2; otherwise(4, 9) = -2;"
                + "otherwise(5, -1) = -2; otherwise(5, 10) = -2; otherwise(2147483647, 1) = -2;"
                + "otherwise(-2147483648, 1) = -2; otherwise(0, 2147483647) = -2;"
                + "otherwise(0, -2147483648) = -2; told(0) = 18; told(1) = 0");
        due.run(Due.with(NO_PLAN), "otherwise(4, 9) = -2; otherwise(6, 1) = -2; told(0) = 2");
    }
}
