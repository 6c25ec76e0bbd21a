/** Promises 5 to 7: place(), lays() and sets(). */
public final class PlacesTest {
    private static final Due DUE = new Due("places");

    public static void main(String[] args) {
        place();
        lays();
        bars();
        sets();
        DUE.end();
    }

    private static void place() {
        DUE.runNew("place(-1, 0) = -2; place(11, 0) = -2; place(0, -1) = -2; place(0, 5) = -2;"
                + "place(2147483647, 4) = -2; place(-2147483648, 4) = -2; told(0) = 6;"
                + "lays(3, 0, 42) = 0; place(3, 0) = 42; place(2, 0) = 0; place(4, 0) = 0;"
                + "puts(3, 0) = 1; place(3, 4) = 0; puts(10, 5) = 2; place(10, 4) = 5;"
                + "place(9, 4) = -1; told(0) = 6; told(1) = 0; told(4) = 3");
    }

    private static void lays() {
        DUE.runNew("lays(0, 0, 99) = 0; lays(0, 0, 100) = -2; lays(0, 0, -1) = -2;"
                + "lays(10, 1, 30) = 5; lays(10, 1, 31) = -2; lays(10, 1, 0) = 30;"
                + "lays(5, 2, 9) = 0; lays(5, 2, 10) = -2; lays(5, 2, 9) = -3;"
                + "lays(-1, 0, 1) = -2; lays(11, 0, 1) = -2; lays(1, -1, 1) = -2;"
                + "lays(1, 4, 1) = -2; told(0) = 8; told(1) = 1; told(4) = 4;"
                + "place(0, 0) = 99; place(10, 1) = 0; place(5, 2) = 9; back() = 3;"
                + "place(5, 2) = 0; back() = 2; place(10, 1) = 30");
        // BAD rather than NO: a place that does not exist has no value that could be the same.
        DUE.runNew("lays(11, 1, 5) = -2; lays(1, 4, -1) = -2; told(1) = 0");
    }

    private static void bars() {
        DUE.runNew("lays(0, 3, 1) = -2; lays(10, 3, 1) = -2; lays(0, 3, 0) = -3;"
                + "lays(10, 3, 0) = -3; lays(1, 3, 2) = -2; lays(1, 3, -1) = -2;"
                + "lays(1, 3, 1) = 0; lays(9, 3, 1) = 0; lays(9, 3, 1) = -3; all(11) = 2;"
                + "lays(1, 3, 0) = 1; all(11) = 1; place(9, 3) = 1; told(0) = 4; told(1) = 3");
        // N is the profile's own, not the first one.
        SpanSpotter s = Due.with("g0,0,0,0,0,0,0,0,0,0,0,0,0;");
        DUE.run(s, "lays(10, 3, 1) = 0; lays(12, 3, 1) = -2; lays(12, 0, 4) = 0;"
                + "lays(13, 0, 4) = -2");
    }

    private static void sets() {
        int[] first = {12, 4, 1, 10, 4, 0};
        int[] least = {1, 0, 0, 1, 1, 0};
        int[] most = {60, 20, 20, 200, 8, 9};
        for (int what = 0; what < 6; what++) {
            SpanSpotter s = new SpanSpotter();
            int other = first[what] == least[what] ? most[what] : least[what];
            DUE.is("too small", s.sets(what, least[what] - 1), SpanSpotter.BAD);
            DUE.is("too great", s.sets(what, most[what] + 1), SpanSpotter.BAD);
            DUE.is("the same", s.sets(what, first[what]), SpanSpotter.NO);
            DUE.is("nothing saved", s.told(4), 0);
            DUE.is("other", s.sets(what, other), first[what]);
            DUE.is("set", s.all(5 + what), other);
            DUE.is("most", s.sets(what, most[what]), other == most[what] ? SpanSpotter.NO : other);
            while (s.told(4) > 0) {
                s.back();
            }
            DUE.is("as at first", s.all(5 + what), first[what]);
        }
        DUE.runNew("sets(-1, 1) = -2; sets(6, 1) = -2; sets(2147483647, 1) = -2;"
                + "sets(0, -2147483648) = -2; told(0) = 4; told(4) = 0");
    }
}
