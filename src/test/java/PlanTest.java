/** Promises 8 to 14, 20 and 21: the present plan, its flaws, its rooms and its pulls. */
public final class PlanTest {
    private static final Due DUE = new Due("plan");

    public static void main(String[] args) {
        puts();
        takes();
        moves();
        flaws();
        flawOrder();
        flawEdges();
        manyFlaws();
        room();
        nearest();
        pull();
        fractionsStay();
        DUE.end();
    }

    private static void puts() {
        DUE.runNew("puts(-1, 0) = -2; puts(11, 0) = -2; puts(0, -1) = -2; puts(0, 6) = -2;"
                + "puts(11, 6) = -2; puts(0, 0) = 1; puts(0, 0) = -3; puts(0, 5) = 1;"
                + "puts(10, 5) = 2; puts(1, 2) = 3; all(0) = 3; all(3) = 1; place(0, 4) = 5;"
                + "told(0) = 5; told(1) = 1; told(4) = 4; back() = 3; all(0) = 2; back() = 2;"
                + "back() = 1; place(0, 4) = 0");
        // A tower may be put on a barred place: it is a flaw, no error.
        DUE.runNew("lays(4, 3, 1) = 0; puts(4, 3) = 1; flaw(1, 0) = 4; flaw(1, 1) = 2");
    }

    private static void takes() {
        DUE.runNew("takes(-1) = -2; takes(11) = -2; takes(0) = -3; puts(0, 3) = 1;"
                + "puts(7, 0) = 2; takes(0) = 1; takes(0) = -3; place(0, 4) = -1;"
                + "place(7, 4) = 0; takes(7) = 0; told(0) = 2; told(1) = 2; told(4) = 4;"
                + "back() = 3; place(7, 4) = 0; back() = 2; place(0, 4) = 3");
    }

    private static void moves() {
        DUE.runNew("puts(0, 3) = 1; puts(3, 4) = 2; puts(7, 1) = 3;"
                + "moves(-1, 3) = -2; moves(3, 11) = -2; moves(11, 3) = -2; moves(3, -1) = -2;"
                + "moves(3, 3) = -3; moves(4, 4) = -3; moves(4, 5) = -3; moves(3, 7) = -3;"
                + "moves(3, 8) = -3; moves(7, 2) = -3; moves(7, 0) = -3; moves(4, 11) = -2;"
                + "told(0) = 5; told(1) = 7; told(4) = 3;"
                + "moves(3, 6) = 2; place(3, 4) = -1; place(6, 4) = 4; flaw(0, 0) = 0;"
                + "flaw(0, 1) = 4; flaw(1, 0) = 10; flaw(1, 1) = 1; told(4) = 4;"
                + "moves(6, 1) = 2; moves(7, 10) = 2; flaw(0, 0) = 1; flaw(0, 1) = 4;"
                + "flaw(1, 0) = 10; flaw(1, 1) = 1; all(0) = 3; back() = 5; place(7, 4) = 1");
    }

    private static void flaws() {
        DUE.runNew("flaw(-1, 0) = -2; flaw(0, -1) = -2; flaw(0, 2) = -2; flaw(0, 0) = 0;"
                + "flaw(0, 1) = 1; flaw(1, 0) = 10; flaw(1, 1) = 1; flaw(2, 0) = -1;"
                + "flaw(2147483647, 1) = -1; told(0) = 3; told(1) = 0;"
                + "puts(0, 0) = 1; flaw(0, 1) = 1; puts(10, 2) = 2; flaw(0, 0) = 0;"
                + "flaw(0, 1) = 1; flaw(1, 0) = 0; flaw(1, 1) = 4; flaw(2, 0) = 10;"
                + "flaw(2, 1) = 1; flaw(3, 0) = -1; sets(0, 1) = 12; all(2) = 4;"
                + "flaw(2, 0) = 0; flaw(2, 1) = 5; flaw(3, 0) = 10; flaw(3, 1) = 1;"
                + "flaw(4, 0) = -1; puts(0, 4) = 2; all(2) = 3; puts(10, 3) = 2; all(2) = 2;"
                + "flaw(0, 1) = 4; flaw(1, 1) = 5");
    }

    private static void flawOrder() {
        // A hanger on a barred place in a valley before a hill: all that a place can have.
        SpanSpotter s = Due.with("g50,0,60,60,50;b1;r2;l0;f10,0;s0,1;");
        DUE.run(s, "puts(0, 3) = 1; puts(1, 0) = 2; puts(4, 0) = 3; all(2) = 5;"
                + "flaw(0, 0) = 1; flaw(0, 1) = 2; flaw(1, 0) = 1; flaw(1, 1) = 3;"
                + "flaw(2, 0) = 1; flaw(2, 1) = 4; flaw(3, 0) = 1; flaw(3, 1) = 5;"
                + "flaw(4, 0) = 4; flaw(4, 1) = 1; flaw(5, 0) = -1;"
                // An anchor may be lifted, and the last tower has no span.
                + "puts(1, 3) = 3; all(2) = 4; flaw(1, 1) = 4; puts(4, 3) = 3; all(2) = 3;"
                + "takes(4) = 2; all(2) = 2; flaw(0, 0) = 1; flaw(0, 1) = 2; flaw(1, 0) = 4;"
                + "flaw(1, 1) = 1");
        // A hanger without a tower before it, or after it, is not lifted.
        s = Due.with("g50,0,0,0,50;r8;s0,1;n0,4,0;");
        DUE.run(s, "puts(2, 0) = 1; puts(4, 3) = 2; all(2) = 1; flaw(0, 0) = 0; takes(4) = 1;"
                + "puts(0, 3) = 2; all(2) = 1; flaw(0, 0) = 4; puts(4, 3) = 3; all(2) = 1;"
                + "flaw(0, 0) = 2; flaw(0, 1) = 3");
    }

    private static void flawEdges() {
        // The pull is just the lift, then just less.
        SpanSpotter s = Due.with("g0,0,0,0,0;s1,2;l2;r2;n0,4,0;");
        DUE.run(s, "puts(0, 3) = 1; puts(2, 0) = 2; puts(4, 3) = 3; pull(2) = 1; upper() = 2;"
                + "lower() = 1; all(2) = 0; sets(5, 3) = 2; all(2) = 1; flaw(0, 1) = 3;"
                + "sets(5, 2) = 3; lays(0, 0, 1) = 0; all(2) = 1; flaw(0, 1) = 3");
        // The room is just 0, then just less; the span is just as long as reach, then longer.
        s = Due.with("g0,0,0;f6,0;s1,1;n1,1,5;r2;");
        DUE.run(s, "puts(0, 3) = 1; puts(2, 3) = 2; room(1) = 1; upper() = 0; lower() = 1;"
                + "all(2) = 0; lays(1, 1, 6) = 5; all(2) = 1; flaw(0, 1) = 5; back() = 3;"
                + "all(2) = 0; sets(4, 1) = 2; all(2) = 1; flaw(0, 1) = 4; sets(2, 2) = 1;"
                + "all(2) = 2; flaw(1, 1) = 5");
    }

    private static void manyFlaws() {
        // Hangers on every other place, all of them in pits: each has all the flaws it can have.
        SpanSpotter s = Due.with("g0,99,0,99,0,99,0,99,0,99,0,99,0,99,0,99,0,99,0,99,0;r1;s0,1;l1;");
        for (int x = 0; x <= 20; x += 2) {
            s.puts(x, 0);
            s.lays(x, 3, 1);
        }
        DUE.is("flaws", s.all(2), 3 + 9 * 4 + 1);
        DUE.is("the last flaw", s.flaw(39, 0), 20);
        DUE.is("its number", s.flaw(39, 1), 1);
        DUE.is("no further flaw", s.flaw(40, 0), SpanSpotter.NONE);
        for (int k = 3; k < 39; k++) {
            DUE.is("place of flaw " + k, s.flaw(k, 0), 2 + (k - 3) / 4 * 2);
            DUE.is("number of flaw " + k, s.flaw(k, 1), 2 + (k - 3) % 4);
        }
    }

    private static void room() {
        DUE.runNew("room(-1) = -2; room(11) = -2; room(5) = -3; puts(5, 0) = 1; room(5) = -3;"
                + "room(4) = -3; room(6) = -3; puts(8, 2) = 2; room(8) = -3; room(9) = -3;"
                + "told(0) = 2; told(1) = 6; upper() = 0; lower() = 1;"
                + "room(6) = 1; upper() = 142; lower() = 15; room(7) = 1; upper() = 182;"
                + "lower() = 15; told(4) = 2");
        // Below 0, whole, and 0.
        SpanSpotter s = Due.with("g0,99,0;f1,0;s0,1;r1;n0,2,3;");
        DUE.run(s, "puts(0, 0) = 1; puts(2, 5) = 2; room(1) = 1; upper() = -101; lower() = 1;"
                + "lays(1, 0, 0) = 99; lays(1, 1, 1) = 3; room(1) = 1; upper() = 0; lower() = 1;"
                + "sets(2, 20) = 0; sets(3, 200) = 1; room(1) = 1; upper() = -1; lower() = 10;"
                + "sets(3, 199) = 200; room(1) = 1; upper() = -20; lower() = 199");
    }

    private static void nearest() {
        DUE.runNew("nearest(-1) = -2; nearest(11) = -2; nearest(0) = -3; puts(0, 3) = 1;"
                + "nearest(0) = -3; puts(1, 3) = 2; nearest(0) = -3; puts(6, 3) = 3;"
                + "nearest(1) = 3; upper() = 32; lower() = 5; nearest(6) = -3; nearest(2) = -3;"
                + "told(0) = 2; told(1) = 5; lays(5, 0, 3) = 0; nearest(1) = 5; upper() = 18;"
                + "lower() = 5; lays(2, 1, 8) = 5; nearest(1) = 2; upper() = 18; lower() = 5");
        // With no sag and flat ground all places are alike: the lowest one.
        SpanSpotter s = Due.with("g4,4,4,4,4;s0,7;");
        DUE.run(s, "puts(0, 3) = 1; puts(4, 3) = 2; nearest(0) = 1; upper() = 7; lower() = 1;"
                + "puts(4, 4) = 2; nearest(0) = 1; upper() = 8; puts(0, 5) = 2; nearest(0) = 3;"
                + "upper() = 12; lower() = 1");
    }

    private static void pull() {
        DUE.runNew("pull(-1) = -2; pull(11) = -2; pull(0) = -3; puts(3, 1) = 1; pull(3) = -3;"
                + "puts(0, 3) = 2; pull(3) = -3; pull(0) = -3; puts(10, 5) = 3; pull(10) = -3;"
                + "pull(4) = -3; told(0) = 2; told(1) = 6; pull(3) = 1; upper() = 37;"
                + "lower() = 21; lays(3, 0, 99) = 0; pull(3) = 1; upper() = 1027; lower() = 21;"
                + "lays(3, 0, 0) = 99; lays(0, 0, 99) = 0; pull(3) = 1; upper() = -656;"
                + "lower() = 21");
        // sag * (9 - 2) + (16 - 12) / 3 + (16 - 20) / 4 = 7 / 10 + 1 / 3.
        DUE.runNew("puts(2, 3) = 1; puts(5, 1) = 2; puts(9, 5) = 3; pull(5) = 1; upper() = 31;"
                + "lower() = 30");
        // Of whatever kind, and over spans longer than reach.
        DUE.runNew("puts(0, 0) = 1; puts(5, 5) = 2; puts(10, 0) = 3; pull(5) = 1; upper() = 21;"
                + "lower() = 5; sets(4, 1) = 4; pull(5) = 1; upper() = 21; sets(2, 0) = 1;"
                + "pull(5) = 1; upper() = 16; lower() = 5; puts(5, 0) = 3; pull(5) = 1;"
                + "upper() = 0; lower() = 1");
    }

    private static void fractionsStay() {
        DUE.runNew("upper() = 0; lower() = 1; puts(0, 3) = 1; puts(4, 1) = 2; room(2) = 1;"
                + "upper() = 43; lower() = 5; room(0) = -3; room(11) = -2; pull(4) = -3;"
                + "nearest(4) = -3; upper() = 43; lower() = 5; clear() = 0; back() = 1;"
                + "back() = 0; upper() = 43; lower() = 5; told(0) = 1");
    }
}
