import java.util.List;

/** The sentences of the promises 5 to 7: place(), lays() and sets(). */
final class PlacePromises {
    private final Sentences d;

    private PlacePromises(Sentences d) {
        this.d = d;
    }

    static void tell(Sentences d) {
        PlacePromises p = new PlacePromises(d);
        p.place();
        p.lays();
        p.laysAnswers();
        p.sets();
    }

    private void place() {
        d.in("Promise 5: place");
        d.names("Returns one property of a place.");
        Due due = d.says("- `x`: the place");
        due.run(Due.with("g7,8,9;"), "place(0, 0) = 7; place(1, 0) = 8; place(2, 0) = 9;"
                + "place(-1, 0) = -2; place(3, 0) = -2");
        due = d.says("- `what`: 0: its ground height; 1: its clearance; 2: its price; 3: 1 if it is"
                + " barred, 0 if not; 4: the kind of the tower there, or NONE");
        due.run(Due.with("g0,99,0;n1,1,30;p1,9;b1;"), "place(1, 0) = 99; place(1, 1) = 30;"
                + "place(1, 2) = 9; place(1, 3) = 1; place(1, 4) = -1; puts(1, 0) = 1;"
                + "place(1, 4) = 0; puts(1, 5) = 1; place(1, 4) = 5; takes(1) = 0;"
                + "place(1, 4) = -1; place(0, 0) = 0; place(0, 1) = 5; place(0, 2) = 0;"
                + "place(0, 3) = 0; place(2, 4) = -1; told(0) = 0");
        due = d.says("Returns the property; BAD if there is no such place or what is not 0 to 4.");
        due.runNew("place(-1, 0) = -2; place(11, 0) = -2; place(10, 4) = -1; place(0, -1) = -2;"
                + "place(0, 5) = -2; place(10, 5) = -2; place(2147483647, 0) = -2;"
                + "place(-2147483648, 0) = -2; place(0, 2147483647) = -2;"
                + "place(0, -2147483648) = -2; place(11, 5) = -2; told(0) = 10; told(1) = 0;"
                + "told(4) = 0");
    }

    private void lays() {
        d.in("Promise 6: lays");
        Due due = d.says("Changes a property of a place.");
        SpanSpotter s = new SpanSpotter();
        due.run(s, "lays(4, 0, 1) = 0; lays(4, 1, 2) = 5; lays(4, 2, 3) = 0; lays(4, 3, 1) = 0");
        for (int x = 0; x <= 10; x++) {
            due.same("place " + x, List.of(s.place(x, 0), s.place(x, 1), s.place(x, 2),
                    s.place(x, 3)), x == 4 ? List.of(1, 2, 3, 1) : List.of(0, 5, 0, 0));
        }
        // What it changes is seen at once by all that leans on it; towers stay.
        due.runNew("cheapest(0) = 96; through(0) = 96; all(2) = 2; lays(0, 2, 9) = 0;"
                + "cheapest(0) = 105; through(0) = 105; puts(0, 3) = 1; puts(2, 3) = 2;"
                + "all(2) = 1; lays(1, 0, 99) = 0; all(2) = 2; all(0) = 2; all(1) = 73;"
                + "lays(2, 3, 1) = 0; all(2) = 3; place(2, 4) = 3; lays(2, 3, 0) = 1; all(2) = 2");
        due = d.says("This can be undone.");
        due.runNew("lays(4, 0, 99) = 0; lays(4, 1, 30) = 5; lays(4, 2, 9) = 0; lays(4, 3, 1) = 0;"
                + "told(4) = 4; back() = 3; place(4, 3) = 0; place(4, 2) = 9; back() = 2;"
                + "place(4, 2) = 0; place(4, 1) = 30; back() = 1; place(4, 1) = 5;"
                + "place(4, 0) = 99; back() = 0; place(4, 0) = 0; cheapest(0) = 96");
        due = d.says("- `x`: the place");
        due.runNew("lays(0, 0, 1) = 0; lays(10, 0, 1) = 0; lays(-1, 0, 1) = -2;"
                + "lays(11, 0, 1) = -2");
        due = d.says("- `what`: 0: its ground height; 1: its clearance; 2: its price; 3: whether it"
                + " is barred");
        due.runNew("lays(5, 0, 3) = 0; place(5, 0) = 3; lays(5, 1, 4) = 5; place(5, 1) = 4;"
                + "lays(5, 2, 6) = 0; place(5, 2) = 6; lays(5, 3, 1) = 0; place(5, 3) = 1;"
                + "lays(5, 4, 3) = -2; place(5, 4) = -1; lays(5, -1, 3) = -2");
        due = d.says("- `v`: the new value (for what 3 it is 0 or 1, and only 0 for the places 0 and"
                + " N)");
        due.runNew("lays(5, 3, 2) = -2; lays(5, 3, -1) = -2; lays(5, 3, 1) = 0; lays(5, 3, 0) = 1;"
                + "lays(0, 3, 1) = -2; lays(10, 3, 1) = -2; lays(0, 3, 2) = -2; lays(0, 3, -1) = -2;"
                + "lays(0, 3, 0) = -3; lays(10, 3, 0) = -3; lays(1, 3, 1) = 0; lays(9, 3, 1) = 0;"
                + "told(0) = 6; told(1) = 2");
        due.run(Due.with("g0,0,0,0;"), "lays(3, 3, 1) = -2; lays(3, 3, 0) = -3; lays(2, 3, 1) = 0");
    }

    private void laysAnswers() {
        Due due = d.says("Returns the old value;");
        due.runNew("lays(5, 0, 99) = 0; lays(5, 0, 1) = 99; lays(5, 1, 30) = 5; lays(5, 1, 0) = 30;"
                + "lays(5, 2, 9) = 0; lays(5, 2, 8) = 9; lays(5, 3, 1) = 0; lays(5, 3, 0) = 1");
        due = d.says("BAD if an argument is out of range;");
        due.runNew("lays(-1, 0, 1) = -2; lays(11, 0, 1) = -2; lays(5, -1, 1) = -2;"
                + "lays(5, 4, 1) = -2; lays(5, 0, -1) = -2; lays(5, 0, 100) = -2;"
                + "lays(5, 1, -1) = -2; lays(5, 1, 31) = -2; lays(5, 2, -1) = -2;"
                + "lays(5, 2, 10) = -2; lays(5, 3, 2) = -2; lays(2147483647, 0, 1) = -2;"
                + "lays(-2147483648, 0, 1) = -2; lays(5, 2147483647, 1) = -2;"
                + "lays(5, -2147483648, 1) = -2; lays(5, 0, 2147483647) = -2;"
                + "lays(5, 0, -2147483648) = -2; told(0) = 17; told(1) = 0; told(4) = 0;"
                + "place(5, 0) = 0; place(5, 1) = 5; place(5, 2) = 0; place(5, 3) = 0");
        due = d.says("NO if the value is the same.");
        due.runNew("lays(5, 0, 0) = -3; lays(5, 1, 5) = -3; lays(5, 2, 0) = -3; lays(5, 3, 0) = -3;"
                + "told(1) = 4; told(4) = 0; lays(5, 0, 99) = 0; lays(5, 0, 99) = -3;"
                + "lays(5, 1, 30) = 5; lays(5, 1, 30) = -3; lays(5, 2, 9) = 0; lays(5, 2, 9) = -3;"
                + "lays(5, 3, 1) = 0; lays(5, 3, 1) = -3; told(1) = 8; told(4) = 4; told(0) = 0");
    }

    private void sets() {
        d.in("Promise 7: sets");
        Due due = d.says("Changes a setting.");
        due.runNew("cheapest(0) = 96; through(5) = 112; sets(0, 13) = 12; cheapest(0) = 102;"
                + "through(5) = 119; all(5) = 13; all(6) = 4; puts(0, 3) = 1; puts(10, 3) = 2;"
                + "all(1) = 68; all(2) = 1; sets(0, 1) = 13; all(1) = 20; all(2) = 2; all(0) = 2");
        due = d.says("This can be undone.");
        due.runNew("sets(0, 60) = 12; sets(1, 20) = 4; sets(2, 20) = 1; sets(3, 200) = 10;"
                + "sets(4, 8) = 4; sets(5, 9) = 0; told(4) = 6; back() = 5; all(10) = 0; back() = 4;"
                + "all(9) = 4; back() = 3; all(8) = 10; back() = 2; all(7) = 1; back() = 1;"
                + "all(6) = 4; back() = 0; all(5) = 12; cheapest(0) = 96");
        due = d.says("- `what`: 0: foot; 1: rise; 2: U; 3: L; 4: reach; 5: lift");
        due.runNew("sets(0, 2) = 12; all(5) = 2; sets(1, 3) = 4; all(6) = 3; sets(2, 5) = 1;"
                + "all(7) = 5; sets(3, 6) = 10; all(8) = 6; sets(4, 7) = 4; all(9) = 7;"
                + "sets(5, 8) = 0; all(10) = 8; sets(-1, 1) = -2; sets(6, 1) = -2");
        due = d.says("- `v`: the new value");
        due.runNew("sets(0, 1) = 12; sets(0, 60) = 1; sets(1, 0) = 4; sets(1, 20) = 0;"
                + "sets(2, 0) = 1; sets(2, 20) = 0; sets(3, 1) = 10; sets(3, 200) = 1;"
                + "sets(4, 1) = 4; sets(4, 8) = 1; sets(5, 9) = 0; sets(5, 0) = 9");
        due = d.says("Returns the old value;");
        due.runNew("sets(4, 1) = 4; sets(4, 2) = 1; sets(4, 8) = 2; sets(3, 200) = 10;"
                + "sets(3, 199) = 200; sets(5, 9) = 0; sets(5, 8) = 9");
        due = d.says("BAD if an argument is out of range;");
        due.runNew("sets(-1, 1) = -2; sets(6, 1) = -2; sets(0, 0) = -2; sets(0, 61) = -2;"
                + "sets(1, -1) = -2; sets(1, 21) = -2; sets(2, -1) = -2; sets(2, 21) = -2;"
                + "sets(3, 0) = -2; sets(3, 201) = -2; sets(4, 0) = -2; sets(4, 9) = -2;"
                + "sets(5, -1) = -2; sets(5, 10) = -2; sets(2147483647, 1) = -2;"
                + "sets(-2147483648, 1) = -2; sets(0, 2147483647) = -2; sets(0, -2147483648) = -2;"
                + "told(0) = 18; told(1) = 0; told(4) = 0; all(5) = 12; all(6) = 4; all(7) = 1;"
                + "all(8) = 10; all(9) = 4; all(10) = 0");
        due = d.says("NO if the value is the same.");
        due.runNew("sets(0, 12) = -3; sets(1, 4) = -3; sets(2, 1) = -3; sets(3, 10) = -3;"
                + "sets(4, 4) = -3; sets(5, 0) = -3; told(1) = 6; told(4) = 0; sets(4, 8) = 4;"
                + "sets(4, 8) = -3; told(1) = 7; told(4) = 1; told(0) = 0");
    }
}
