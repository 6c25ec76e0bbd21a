import java.util.List;

/** The sentences of the promises 1 to 4: a new object, type(), clear() and reads(). */
final class TextPromises {
    private final Sentences d;

    private TextPromises(Sentences d) {
        this.d = d;
    }

    static void tell(Sentences d) {
        TextPromises t = new TextPromises(d);
        t.newObject();
        t.type();
        t.clear();
        t.reads();
    }

    private void newObject() {
        d.in("Promise 1: A new object");
        Due due = d.says("Creates an object with the initial profile and settings, without towers,"
                + " with an empty text.");
        due.runNew("all(4) = 10; all(5) = 12; all(6) = 4; all(7) = 1; all(8) = 10; all(9) = 4;"
                + "all(10) = 0; all(11) = 0; all(0) = 0; all(1) = 0; all(3) = 0; told(0) = 0;"
                + "told(1) = 0; told(2) = 0; told(3) = 0; told(4) = 0; upper() = 0; lower() = 1;"
                + "reads() = -10; clear() = 0; back() = -3");
        SpanSpotter fresh = new SpanSpotter();
        for (int x = 0; x <= 10; x++) {
            due.same("place " + x, List.of(fresh.place(x, 0), fresh.place(x, 1), fresh.place(x, 2),
                    fresh.place(x, 3), fresh.place(x, 4)), List.of(0, 5, 0, 0, -1));
        }
        due.is("there are no more places", fresh.place(11, 0), SpanSpotter.BAD);
        // What is done to one object is not seen in another one, older or younger.
        SpanSpotter older = new SpanSpotter();
        SpanSpotter used = Due.with("g9,9,9;r2;l4;");
        due.run(used, "puts(0, 3) = 1; puts(2, 3) = 2; room(1) = 1; all(13) = -2; type(1) = 14");
        due.is("an older object", older.digest(), fresh.digest() - told0(fresh));
        due.is("a younger object", new SpanSpotter().digest(), older.digest());
        due.is("upper() of an older object", older.upper(), 0);
        due.is("lower() of an older object", older.lower(), 1);
    }

    /** What the one BAD call of an object adds to its digest: the first of all the numbers. */
    private static long told0(SpanSpotter s) {
        SpanSpotter plain = new SpanSpotter();
        SpanSpotter bad = new SpanSpotter();
        bad.all(13);
        return s.told(0) * (bad.digest() - plain.digest());
    }

    private void type() {
        d.in("Promise 2: type");
        Due due = d.says("Appends a byte to the text.");
        // The order of the bytes is kept, from the first to the last.
        due.runNew("type(103) = 1; type(49) = 2; type(44) = 3; type(50) = 4; type(44) = 5;"
                + "type(51) = 6; type(59) = 7; reads() = 1; place(0, 0) = 1; place(1, 0) = 2;"
                + "place(2, 0) = 3; type(114) = 8; type(55) = 9; type(59) = 10; reads() = 2;"
                + "all(9) = 7");
        due = d.says("- `c`: the byte, 0 to 127");
        due.runNew("type(0) = 1; type(127) = 2; type(-1) = -2; type(128) = -2; told(3) = 2;"
                + "told(0) = 2");
        SpanSpotter s = new SpanSpotter();
        for (int c = 0; c <= 127; c++) {
            due.is("type(" + c + ")", s.type(c), c + 1);
        }
        due = d.says("Returns how many bytes the text has then;");
        s = new SpanSpotter();
        for (int i = 1; i <= 200; i++) {
            due.is("type", s.type(103), i);
        }
        due = d.says("BAD if the byte is out of range;");
        due.runNew("type(-1) = -2; type(128) = -2; type(255) = -2; type(359) = -2;"
                + "type(2147483647) = -2; type(-2147483648) = -2; told(0) = 6; told(3) = 0;"
                + "reads() = -10; type(103) = 1");
        due = d.says("FULL if the text has 200 bytes already.");
        s = new SpanSpotter();
        Due.types(s, "x".repeat(199));
        due.run(s, "told(3) = 199; type(120) = 200; type(120) = -4; told(3) = 200; type(0) = -4;"
                + "told(2) = 2; type(128) = -2; told(2) = 2; told(0) = 1; clear() = 200;"
                + "type(120) = 1; told(2) = 2");
    }

    private void clear() {
        d.in("Promise 3: clear");
        Due due = d.says("Empties the text.");
        SpanSpotter s = new SpanSpotter();
        Due.types(s, "g1,2,3;r8;");
        due.run(s, "clear() = 10; told(3) = 0; reads() = -10; type(103) = 1; reads() = -11;"
                + "told(3) = 1; clear() = 1; told(4) = 0; told(1) = 0");
        // The profile stays, and back() does not bring the text again.
        s = Due.with("g1,2,3;r8;");
        due.run(s, "clear() = 10; all(4) = 2; all(9) = 8; told(4) = 1; back() = 0; told(3) = 0");
        due = d.says("Returns how many bytes it had.");
        s = new SpanSpotter();
        due.run(s, "clear() = 0; type(1) = 1; clear() = 1; clear() = 0");
        Due.types(s, "y".repeat(205));
        due.run(s, "clear() = 200; clear() = 0; told(2) = 5");
        Due.types(s, "y".repeat(199));
        due.run(s, "clear() = 199");
    }

    private void reads() {
        d.in("Promise 4: reads");
        Due due = d.says("Replaces the profile and the settings by those that the text describes.");
        SpanSpotter s = new SpanSpotter();
        due.is("items", Due.reads(s, "g10,0,30;n0,1,9;p2,8;b1;f11,5;s2,15;r3;l1;"), 8);
        due.same("all of it", Look.at(s), List.of(0L, 0L, 2L, 0L, 2L, 11L, 5L, 2L, 15L, 3L, 1L, 1L,
                10000L - s.cheapest(0), 10L, 9L, 0L, 0L, -1L, 0L, 9L, 0L, 1L, -1L,
                30L, 5L, 8L, 0L, -1L, 0L, 1L, 2L, 1L, 0L, 1L));
        // From few places to many and to few again.
        due.is("21 heights", Due.reads(s, "g1,1,1,1,1,1,1,1,1,1,1,1,1,1,1,1,1,1,1,1,7;"), 1);
        due.run(s, "all(4) = 20; place(20, 0) = 7; place(1, 3) = 0; place(2, 2) = 0; all(5) = 12");
        due.is("3 heights", Due.reads(s, "g4,5,6;"), 1);
        due.run(s, "all(4) = 2; place(2, 0) = 6; place(3, 0) = -2; cheapest(1) = 2; spot(1, 0) = 2");
        // What was known of the cheapest plan and of the flaws is not known any more.
        s = new SpanSpotter();
        Due.types(s, "g0,0,0;f20,4;");
        due.run(s, "cheapest(0) = 96; through(2) = 96; all(2) = 2; flaw(1, 0) = 10; reads() = 2;"
                + "cheapest(0) = 96; cheapest(1) = 2; through(2) = 96; through(1) = 120;"
                + "spot(1, 0) = 2; flaw(1, 0) = 2; all(2) = 2; back() = 0; cheapest(1) = 4");
        due = d.says("There are no towers then.");
        s = new SpanSpotter();
        Due.types(s, "g0,0,0,0,0,0,0,0,0,0,0;");
        due.run(s, "puts(0, 3) = 1; puts(5, 0) = 2; puts(10, 5) = 3; reads() = 1; all(0) = 0;"
                + "all(1) = 0; all(3) = 0; place(0, 4) = -1; place(5, 4) = -1; place(10, 4) = -1;"
                + "all(2) = 2; reads() = 1; all(0) = 0");
        due = d.says("The text stays.");
        s = Due.with("g0,0,0;r8;");
        due.run(s, "told(3) = 10; reads() = 2; told(3) = 10; type(108) = 11; reads() = -21;"
                + "told(3) = 11; type(49) = 12; type(59) = 13; reads() = 3; told(3) = 13;"
                + "all(10) = 1");
        due = d.says("This can be undone.");
        s = new SpanSpotter();
        due.run(s, "puts(0, 3) = 1; sets(4, 8) = 4; lays(10, 0, 9) = 0");
        due.is("reads()", Due.reads(s, "g0,0,0;"), 1);
        due.run(s, "told(4) = 4; back() = 3; all(4) = 10; all(0) = 1; place(0, 4) = 3; all(9) = 8;"
                + "place(10, 0) = 9; told(3) = 7; reads() = 1; told(4) = 4; reads() = 1;"
                + "told(4) = 5; back() = 4; all(4) = 2; back() = 3; all(4) = 10");
        readsAnswers();
    }

    private void readsAnswers() {
        Due due = d.says("Returns the number of items;");
        due.is("one item", Due.reads(new SpanSpotter(), "g0,0,0;"), 1);
        due.is("two items", Due.reads(new SpanSpotter(), "g0,0,0;b1;"), 2);
        due.is("the most items there can be", Due.reads(new SpanSpotter(),
                "g0,0,0;" + "b1;".repeat(64)), 65);
        due = d.says("-10 minus the fault if the text has a fault (nothing changes then, and this is"
                + " not counted as an error).");
        due.runNew("reads() = -10; told(0) = 0; told(1) = 0; told(2) = 0; told(4) = 0");
        SpanSpotter s = new SpanSpotter();
        due.run(s, "puts(0, 3) = 1; puts(4, 1) = 2; room(2) = 1; sets(4, 8) = 4");
        List<Long> before = Look.at(s);
        List<Integer> cheapest = Look.cheapest(s);
        due.is("a fault behind all items", Due.reads(s, "g9,9,9;n0,2,9;p1,9;b1;f9,9;s9,9;r1;l9;x"),
                -10 - 38);
        due.same("what is told", Look.at(s), before);
        due.same("the cheapest", Look.cheapest(s), cheapest);
        due.same("the errors", Look.errors(s), List.of(0, 0, 0));
        due.run(s, "told(3) = 39; told(4) = 3; back() = 2; all(9) = 4; all(0) = 2");
        s = new SpanSpotter();
        Due.types(s, "g0,0,0;" + "b1;".repeat(64) + "b");
        due.run(s, "reads() = -210; told(0) = 0; told(1) = 0; told(2) = 0; all(4) = 10");
    }
}
