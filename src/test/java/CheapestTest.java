import java.util.Random;

/** Promises 15 to 19: cheapest(), spot(), through(), builds() and otherwise(). */
public final class CheapestTest {
    private static final Due DUE = new Due("cheapest");

    public static void main(String[] args) {
        wrongInputs();
        flatLine();
        noPlan();
        order();
        modulus();
        edgesOfSoundness();
        through();
        builds();
        otherwise();
        againstTrial();
        DUE.end();
    }

    private static void wrongInputs() {
        DUE.runNew("cheapest(-1) = -2; cheapest(4) = -2; spot(-1, 0) = -2; spot(0, -1) = -2;"
                + "spot(0, 2) = -2; spot(2147483647, 0) = -1; spot(4, 1) = -1; through(-1) = -2;"
                + "through(11) = -2; otherwise(-1, 1) = -2; otherwise(6, 1) = -2;"
                + "otherwise(0, 0) = -2; otherwise(0, 61) = -2; otherwise(1, 21) = -2;"
                + "otherwise(2, -1) = -2; otherwise(3, 0) = -2; otherwise(3, 201) = -2;"
                + "otherwise(4, 0) = -2; otherwise(4, 9) = -2; otherwise(5, 10) = -2;"
                + "told(0) = 18; told(1) = 0; told(4) = 0");
    }

    private static void flatLine() {
        DUE.runNew("cheapest(0) = 96; cheapest(1) = 4; cheapest(2) = 6; cheapest(3) = 182040;"
                + "spot(0, 0) = 0; spot(0, 1) = 3; spot(1, 0) = 2; spot(1, 1) = 0;"
                + "spot(2, 0) = 6; spot(2, 1) = 0; spot(3, 0) = 10; spot(3, 1) = 3;"
                + "spot(4, 0) = -1; all(0) = 0; told(4) = 0");
    }

    private static void noPlan() {
        SpanSpotter s = Due.with("g0,0,0;b1;r1;");
        DUE.run(s, "cheapest(0) = -1; cheapest(1) = -1; cheapest(2) = 0; cheapest(3) = 0;"
                + "spot(0, 0) = -1; spot(0, 1) = -1; through(0) = -1; through(1) = -1;"
                + "through(2) = -1; builds() = -3; otherwise(4, 2) = 64; otherwise(4, 1) = -1;"
                + "all(12) = -1; told(0) = 0; told(1) = 1; told(4) = 1; sets(4, 2) = 1;"
                + "cheapest(0) = 64; through(0) = 64; through(1) = -1; through(2) = 64");
    }

    private static void order() {
        // Without rise all kinds of hangers cost the same: of them the lowest.
        SpanSpotter s = Due.with("g0,0,0;f12,0;");
        DUE.run(s, "cheapest(0) = 64; cheapest(1) = 2; cheapest(2) = 9; spot(0, 1) = 3;"
                + "spot(1, 0) = 2; spot(1, 1) = 3; cheapest(3) = 63");
        // A hanger at 2 costs as much as one at 1 and one at 3: the fewest towers.
        s = Due.with("g0,0,0,0,0;f1,0;n0,4,0;s0,1;r2;p2,5;");
        DUE.run(s, "cheapest(0) = 30; cheapest(1) = 3; spot(1, 0) = 2; cheapest(2) = 108");
        // The lower place comes before the lower kind.
        s = Due.with("g0,0,0,0;f10,0;n0,3,0;s0,1;r2;");
        DUE.run(s, "spot(1, 0) = 1; spot(1, 1) = 0; lays(1, 2, 1) = 0; spot(1, 0) = 2;"
                + "lays(1, 2, 0) = 1; lays(1, 0, 30) = 0; cheapest(1) = 3; spot(1, 0) = 1;"
                + "lays(0, 0, 99) = 0; spot(1, 0) = 1; spot(1, 1) = 3");
    }

    private static void modulus() {
        // Without sag and clearance on flat ground, with one height and reach N, every plan with
        // anchors at its ends is sound: 3 * 3 for them, and 7 for each place between, so there
        // are 7^7 * 9 = 7411887 with N = 8.
        SpanSpotter s = Due.with("g0,0,0,0,0,0,0,0,0;f1,0;n0,8,0;s0,1;r8;");
        DUE.run(s, "cheapest(3) = 411887; cheapest(2) = 9; cheapest(0) = 20;"
                + "sets(0, 60) = 1; cheapest(3) = 411887; cheapest(0) = 256");
        // Reach 1 and 19 hangers of 3 kinds each: 9 * 3^19 = 10460353203.
        s = Due.with("g0,0,0,0,0,0,0,0,0,0,0,0,0,0,0,0,0,0,0,0,0;f1,0;n0,20,0;s0,1;r1;");
        DUE.run(s, "cheapest(0) = 115; cheapest(1) = 21; cheapest(2) = 353203;"
                + "spot(20, 0) = 20; spot(20, 1) = 3; spot(19, 1) = 0; spot(21, 0) = -1");
        // The dearest line: all towers are anchors of the greatest height.
        s = Due.with("g0,99,0,99,0,99,0,99,0,99,0,99,0,99,0,99,0,99,0,99,0;f60,20;l9;r1;s0,200;");
        DUE.is("cheapest(0)", s.cheapest(0), 21 * 128 - 10 * 64);
    }

    private static void edgesOfSoundness() {
        // The room is 0 at the place between: just enough.
        SpanSpotter s = Due.with("g0,0,0;f6,0;s1,1;n1,1,5;r2;");
        DUE.run(s, "cheapest(0) = 40; cheapest(1) = 2; lays(1, 1, 6) = 5; cheapest(1) = 3;"
                + "cheapest(0) = 50");
        // The pull is just the lift: a hanger will do; else an anchor is needed.
        s = Due.with("g0,0,0,0,0;s1,2;l2;r2;n0,4,0;f9,0;b1;b3;");
        DUE.run(s, "cheapest(0) = 65; spot(1, 1) = 0; through(2) = 65; through(4) = 65;"
                + "sets(5, 3) = 2; cheapest(0) = 78;"
                + "spot(1, 1) = 3; sets(5, 2) = 3; lays(0, 0, 1) = 0; spot(1, 1) = 3");
        // Each hanger's pull depends on both its spans: 1, 2 and 5 long ones make fractions.
        s = Due.with("g20,15,13,9,6,4,4,5,7;s3,17;l1;r5;f8,3;n0,8,2;");
        DUE.is("builds()", s.builds(), s.cheapest(1));
        DUE.is("flaws", s.all(2), 0);
        DUE.is("its cost", s.all(1), s.cheapest(0));
    }

    private static void through() {
        DUE.runNew("through(0) = 96; through(1) = 112; through(2) = 96; through(5) = 112;"
                + "through(10) = 96; lays(5, 2, 9) = 0; through(5) = 121; lays(5, 3, 1) = 0;"
                + "through(5) = -1; through(4) = 96; told(0) = 0; puts(5, 3) = 1;"
                + "through(5) = -1; back() = 2; back() = 1; through(5) = 121; back() = 0;"
                + "through(5) = 112");
        // What leads to a place and what follows it must fit together there.
        SpanSpotter s = Due.with("g30,0,0,0,30;s0,1;l0;r4;n0,4,0;f10,5;");
        DUE.run(s, "cheapest(0) = 56; through(2) = 84; otherwise(2, 20) = 70");
    }

    private static void builds() {
        DUE.runNew("builds() = 4; all(0) = 4; all(1) = 96; all(2) = 0; place(0, 4) = 3;"
                + "place(2, 4) = 0; place(6, 4) = 0; place(10, 4) = 3; place(4, 4) = -1;"
                + "told(4) = 1; builds() = -3; told(1) = 1; told(4) = 1; puts(5, 0) = 5;"
                + "builds() = 4; place(5, 4) = -1; puts(2, 1) = 4; builds() = 4;"
                + "moves(2, 3) = 0; builds() = 4; back() = 5; place(3, 4) = 0; back() = 4;"
                + "back() = 3; place(2, 4) = 1; takes(2) = 3; builds() = 4");
    }

    private static void otherwise() {
        DUE.runNew("otherwise(4, 8) = 80; otherwise(4, 4) = 96; otherwise(4, 1) = 208;"
                + "otherwise(0, 5) = 62; otherwise(0, 12) = 96; cheapest(0) = 96; all(9) = 4;"
                + "all(5) = 12; through(5) = 112; otherwise(0, 60) = 384; through(5) = 112;"
                + "spot(1, 0) = 2; told(0) = 0; told(1) = 0; told(4) = 0; otherwise(2, 20) = 100;"
                + "otherwise(3, 1) = 96; otherwise(5, 9) = 128; otherwise(1, 20) = 96");
    }

    /** Short lines, of which every plan can be tried. */
    private static void againstTrial() {
        Random random = new Random(7);
        for (int i = 0; i < 60; i++) {
            Model.State state = randomLine(random, i < 55 ? 2 + i % 3 : 5);
            SpanSpotter s = new SpanSpotter();
            DUE.is("own text", Due.reads(s, textOf(state)) > 0 ? 1 : 0, 1);
            Model.Result all = Model.byTrial(state, 0);
            boolean any = all.best != null;
            DUE.is("least cost of " + textOf(state), s.cheapest(0), any ? all.cost : -1);
            DUE.is("towers", s.cheapest(1), any ? all.best.size() : -1);
            DUE.is("of this cost", s.cheapest(2), all.same.longValueExact() % 1000000);
            DUE.is("sound plans", s.cheapest(3), all.every.longValueExact() % 1000000);
            for (int k = 0; any && k < all.best.size(); k++) {
                DUE.is("place of " + k, s.spot(k, 0), all.best.get(k).place());
                DUE.is("kind of " + k, s.spot(k, 1), all.best.get(k).kind());
            }
            int x = random.nextInt(state.n + 1);
            Model.Result through = Model.byTrial(state, x);
            DUE.is("through " + x, s.through(x), through.best == null ? -1 : through.cost);
        }
    }

    private static Model.State randomLine(Random random, int n) {
        Model.State state = new Model.State();
        state.n = n;
        int steep = 1 + random.nextInt(25);
        for (int x = 0; x <= n; x++) {
            state.ground[x] = random.nextInt(steep);
            state.clearance[x] = random.nextInt(9);
            state.price[x] = random.nextInt(3) == 0 ? random.nextInt(10) : 0;
            boolean inside = x > 0 && x < n;
            state.barred[x] = inside && random.nextInt(6) == 0 ? 1 : 0;
        }
        int[] values = {1 + random.nextInt(20), random.nextInt(6), random.nextInt(5),
            1 + random.nextInt(12), 1 + random.nextInt(4), random.nextInt(4)};
        state.setting = values;
        return state;
    }

    private static String textOf(Model.State state) {
        StringBuilder text = new StringBuilder("g");
        for (int x = 0; x <= state.n; x++) {
            text.append(x == 0 ? "" : ",").append(state.ground[x]);
        }
        text.append(';');
        for (int x = 0; x <= state.n; x++) {
            text.append("n" + x + "," + x + "," + state.clearance[x] + ";");
            text.append("p" + x + "," + state.price[x] + ";");
            text.append(state.barred[x] == 1 ? "b" + x + ";" : "");
        }
        int[] v = state.setting;
        text.append("f" + v[0] + "," + v[1] + ";s" + v[2] + "," + v[3] + ";r" + v[4] + ";l" + v[5]);
        return text.append(';').toString();
    }
}
