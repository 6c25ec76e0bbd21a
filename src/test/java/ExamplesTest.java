/** The five examples of the document, call by call. */
public final class ExamplesTest {
    public static void main(String[] args) {
        Due due = new Due("examples");
        due.runNew("puts(0, 3) = 1; puts(4, 1) = 2; puts(10, 5) = 3; all(1) = 100; all(2) = 1;"
                + "flaw(0, 0) = 4; flaw(0, 1) = 4; room(2) = 1; upper() = 43; lower() = 5;"
                + "pull(4) = 1; upper() = 4; lower() = 3; cheapest(0) = 96; cheapest(1) = 4;"
                + "spot(1, 0) = 2");
        due.runNew("type(103) = 1; type(48) = 2; type(44) = 3; type(57) = 4; type(44) = 5;"
                + "type(48) = 6; type(59) = 7; type(98) = 8; type(49) = 9; type(59) = 10;"
                + "type(114) = 11; type(50) = 12; type(59) = 13; reads() = 3; cheapest(3) = 6;"
                + "through(1) = -1");
        due.runNew("type(103) = 1; type(48) = 2; type(44) = 3; type(48) = 4; type(59) = 5;"
                + "reads() = -14; clear() = 5; reads() = -10; place(11, 0) = -2;"
                + "lays(0, 3, 1) = -2; lays(3, 0, 0) = -3; lays(3, 0, 99) = 0; room(3) = -3;"
                + "nearest(0) = -3; moves(0, 1) = -3; told(0) = 2");
        due.runNew("sets(4, 1) = 4; cheapest(0) = 208; otherwise(4, 4) = 96; builds() = 11;"
                + "builds() = -3; all(12) = 10000; sets(0, 1) = 12; cheapest(0) = 65;"
                + "cheapest(2) = 1; through(5) = 65; spot(0, 0) = 0; all(12) = 10000;"
                + "back() = 2; all(5) = 12; back() = 1; all(0) = 0");
        due.runNew("type(103) = 1; type(49) = 2; type(44) = 3; type(50) = 4; type(44) = 5;"
                + "type(51) = 6; type(59) = 7; type(110) = 8; type(50) = 9; type(44) = 10;"
                + "type(49) = 11; type(44) = 12; type(53) = 13; type(59) = 14; reads() = -21;"
                + "sets(0, 61) = -2");
        due.end();
    }
}
