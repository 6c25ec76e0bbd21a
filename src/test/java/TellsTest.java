/** Promises 22 to 25: all(), back(), told() and digest(). */
public final class TellsTest {
    private static final Due DUE = new Due("tells");

    public static void main(String[] args) {
        all();
        back();
        backStays();
        told();
        digest();
        DUE.end();
    }

    private static void all() {
        DUE.runNew("all(-1) = -2; all(13) = -2; all(-2147483648) = -2; told(0) = 3;"
                + "puts(0, 3) = 1; puts(4, 1) = 2; puts(10, 5) = 3; lays(4, 2, 7) = 0;"
                + "lays(4, 3, 1) = 0; lays(5, 3, 1) = 0; all(0) = 3; all(1) = 107; all(2) = 2;"
                + "all(3) = 1; all(4) = 10; all(5) = 12; all(6) = 4; all(7) = 1; all(8) = 10;"
                + "all(9) = 4; all(10) = 0; all(11) = 2; all(12) = 10011;"
                + "sets(0, 60) = 12; sets(1, 20) = 4; sets(2, 3) = 1; sets(3, 200) = 10;"
                + "sets(4, 8) = 4; sets(5, 9) = 0; all(5) = 60; all(6) = 20; all(7) = 3;"
                + "all(8) = 200; all(9) = 8; all(10) = 9; all(1) = 427");
        // The dearest plan that can be, above the cheapest.
        SpanSpotter s = new SpanSpotter();
        for (int x = 0; x <= 10; x++) {
            s.puts(x, 5);
        }
        DUE.run(s, "all(0) = 11; all(3) = 0; all(1) = 528; all(12) = 10432; all(2) = 0");
        DUE.is("no sound plan", Due.with("g0,0,0;b1;r1;").all(12), SpanSpotter.NONE);
    }

    private static void back() {
        DUE.runNew("back() = -3; told(1) = 1; puts(0, 3) = 1; lays(1, 0, 9) = 0; sets(4, 8) = 4;"
                + "told(4) = 3; back() = 2; all(9) = 4; place(1, 0) = 9; back() = 1;"
                + "place(1, 0) = 0; place(0, 4) = 3; back() = 0; place(0, 4) = -1; back() = -3;"
                + "told(1) = 2; told(4) = 0");
        // Six states are saved; the oldest ones are lost.
        SpanSpotter s = new SpanSpotter();
        for (int v = 1; v <= 9; v++) {
            s.lays(3, 0, v);
            DUE.is("saved", s.told(4), Math.min(v, 6));
        }
        for (int v = 8; v >= 3; v--) {
            DUE.is("back()", s.back(), v - 3);
            DUE.is("the ground", s.place(3, 0), v);
        }
        DUE.run(s, "back() = -3; place(3, 0) = 3; lays(3, 0, 4) = 3; told(4) = 1; back() = 0;"
                + "place(3, 0) = 3");
        // Errors, and calls that change nothing, save nothing.
        DUE.runNew("puts(11, 3) = -2; takes(1) = -3; moves(1, 2) = -3; lays(1, 0, 0) = -3;"
                + "sets(0, 12) = -3; reads() = -10; type(65) = 1; clear() = 1; cheapest(0) = 96;"
                + "otherwise(4, 8) = 80; told(4) = 0; told(0) = 1; told(1) = 4");
        // The whole profile comes back, also with another N, and what is cheapest with it.
        s = new SpanSpotter();
        DUE.is("reads", Due.reads(s, "g5,4,3,2,1;b2;r2;f13,4;"), 4);
        DUE.run(s, "cheapest(0) = 102; back() = 0; all(4) = 10; all(11) = 0; cheapest(0) = 96;"
                + "place(10, 0) = 0; told(3) = 23");
    }

    private static void backStays() {
        DUE.runNew("type(103) = 1; puts(0, 3) = 1; puts(2, 3) = 2; room(1) = 1; upper() = 69;"
                + "lower() = 10; puts(2, 3) = -3; type(200) = -2; back() = 1; back() = 0;"
                + "upper() = 69; lower() = 10; told(0) = 1; told(1) = 1; told(3) = 1");
    }

    private static void told() {
        SpanSpotter s = new SpanSpotter();
        DUE.run(s, "told(-1) = -2; told(5) = -2; told(2147483647) = -2; told(0) = 3;"
                + "told(0) = 3; back() = -3; told(1) = 1; told(2) = 0; told(3) = 0;"
                + "flaw(9, 0) = -1; spot(9, 0) = -1; place(0, 4) = -1; reads() = -10;"
                + "told(0) = 3; told(1) = 1");
        for (int i = 0; i < 205; i++) {
            s.type(59);
        }
        DUE.run(s, "told(2) = 5; told(3) = 200; reads() = -10; clear() = 200; told(3) = 0;"
                + "told(2) = 5; told(4) = 0");
    }

    private interface Calls {
        void make(SpanSpotter s);
    }

    /** The checksum by the public methods of a second object, to which the same was done. */
    private static final class Digest {
        private final SpanSpotter s = new SpanSpotter();
        private long h = 2293;

        Digest(Calls calls) {
            calls.make(s);
        }

        private void add(long number) {
            h = 31 * h + number;
        }

        long value() {
            for (int what = 0; what <= 4; what++) {
                add(s.told(what));
            }
            for (int what = 0; what <= 12; what++) {
                add(s.all(what));
            }
            int n = s.all(4);
            for (int x = 0; x <= n; x++) {
                for (int what = 0; what <= 4; what++) {
                    add(s.place(x, what));
                }
            }
            for (int k = 0; k < s.all(2); k++) {
                add(s.flaw(k, 0));
                add(s.flaw(k, 1));
            }
            for (int what = 0; what <= 3; what++) {
                add(s.cheapest(what));
            }
            for (int k = 0; k < s.cheapest(1); k++) {
                add(s.spot(k, 0));
                add(s.spot(k, 1));
            }
            for (int x = 0; x <= n; x++) {
                add(s.through(x));
            }
            return h;
        }
    }

    private static void digests(Calls calls) {
        SpanSpotter s = new SpanSpotter();
        calls.make(s);
        long want = new Digest(calls).value();
        DUE.is("digest()", s.digest(), want);
        DUE.is("digest() again", s.digest(), want);
    }

    private static void digest() {
        digests(s -> { });
        digests(s -> s.puts(11, 0));
        digests(s -> s.puts(3, 0));
        digests(s -> s.builds());
        digests(s -> s.type(103));
        digests(s -> {
            Due.reads(s, "g0,9,0;b1;r1;");
            s.puts(1, 1);
            s.puts(0, 0);
        });
        digests(s -> {
            Due.reads(s, "g0,9,20,33,47,60,70,78,83,85,86,85,82,77,70,61,50,38,25,12,0;r5;l2;");
            s.builds();
            s.otherwise(4, 8);
            s.moves(0, 1);
        });
        DUE.holds("another state has another digest",
                new SpanSpotter().digest() != new Digest(s -> s.back()).value());
    }
}
