/** The sentences of "Texts" in "Description": items, numbers and faults. */
final class TextsSay {
    private static final String HEIGHTS = "g1,2,3;";
    private static final String TWENTY = "g0,1,2,3,4,5,6,7,8,9,0,1,2,3,4,5,6,7,8,9";
    private final Sentences d;

    private TextsSay(Sentences d) {
        this.d = d;
    }

    static void tell(Sentences d) {
        TextsSay t = new TextsSay(d);
        d.in("Description");
        d.names("Texts");
        t.bytes();
        t.itemsEnd();
        t.firstItem();
        t.heights();
        t.clearances();
        t.prices();
        t.bars();
        t.footAndRise();
        t.sag();
        t.reach();
        t.lift();
        t.ranges();
        t.digits();
        t.severalTimes();
        t.notGiven();
        t.cannotStand();
        t.tooGreat();
        t.tooSmall();
        t.furtherDigit();
        t.endsTooEarly();
    }

    private static void items(Due due, String text, int items) {
        due.is("reads() of " + text, Due.reads(new SpanSpotter(), text), items);
    }

    private static void fault(Due due, String text, int index) {
        due.is("reads() of " + text, Due.reads(new SpanSpotter(), text), -10 - index);
    }

    /** The fault's index counts from behind the heights of a line with N = 2. */
    private static void faultBehind(Due due, String text, int index) {
        fault(due, HEIGHTS + text, HEIGHTS.length() + index);
    }

    private void bytes() {
        Due due = d.says("A text of at most 200 bytes describes a profile.");
        String full = HEIGHTS + "r08;" + "r4;".repeat(62) + "r5;";
        due.is("its length", full.length(), 200);
        SpanSpotter s = new SpanSpotter();
        due.is("items of 200 bytes", Due.reads(s, full), 65);
        due.run(s, "all(4) = 2; all(9) = 5; told(3) = 200");
        // The 201st byte is refused: what it would have ended stays open.
        s = new SpanSpotter();
        Due.types(s, HEIGHTS + "r4;".repeat(64) + "r4;");
        due.run(s, "told(3) = 200; told(2) = 2; reads() = -210");
        // The longest first item: 21 heights of two digits.
        s = new SpanSpotter();
        due.is("21 heights of two digits", Due.reads(s, "g" + "99,".repeat(20) + "98;"), 1);
        due.run(s, "told(3) = 64; all(4) = 20; place(19, 0) = 99; place(20, 0) = 98");
    }

    private void itemsEnd() {
        Due due = d.says("It consists of items without blanks, each of which ends with ';'.");
        items(due, "g1,2,3;r4;", 2);
        fault(due, "g1,2,3", 6);
        fault(due, "g1,2,3;r4", 9);
        fault(due, "g1,2,3r4;", 6);
        fault(due, "g1,2,3;r4r4;", 9);
        fault(due, "g1,2,3;;", 7);
        fault(due, "g1,2,3;r4;;", 10);
        fault(due, " g1,2,3;", 0);
        fault(due, "g 1,2,3;", 1);
        fault(due, "g1, 2,3;", 3);
        fault(due, "g1,2,3 ;", 6);
        fault(due, "g1,2,3; r4;", 7);
        fault(due, "g1,2,3;r 4;", 8);
        fault(due, "g1,2,3;r4; ", 10);
        fault(due, "g1,2,3;\n", 7);
        fault(due, "g1,2,3;\0", 7);
        fault(due, "g1,2,3.", 6);
    }

    private void firstItem() {
        Due due = d.says("The first item, and only this one, is g:");
        for (String item : new String[] {"n0,2,5;", "p0,1;", "b1;", "f1,1;", "s1,1;", "r1;", "l1;"}) {
            fault(due, item, 0);
            fault(due, item + HEIGHTS, 0);
            items(due, HEIGHTS + item, 2);
            fault(due, HEIGHTS + item + HEIGHTS, HEIGHTS.length() + item.length());
        }
        fault(due, HEIGHTS + HEIGHTS, 7);
        fault(due, "G1,2,3;", 0);
        fault(due, "h1,2,3;", 0);
        fault(due, "f1,2,3;", 0);
    }

    private void heights() {
        Due due = d.says("gH,H,...,H; the ground heights of the places 0, 1, ..., N (3 to 21 of"
                + " them)");
        fault(due, "g;", 1);
        fault(due, "g1;", 2);
        fault(due, "g1,2;", 4);
        items(due, "g1,2,3;", 1);
        items(due, TWENTY + ";", 1);
        items(due, TWENTY + ",7;", 1);
        fault(due, TWENTY + ",7,7;", TWENTY.length() + 2);
        fault(due, TWENTY + ",7,", TWENTY.length() + 2);
        fault(due, TWENTY + ",7", TWENTY.length() + 2);
        fault(due, TWENTY + ",", TWENTY.length() + 1);
        fault(due, TWENTY, TWENTY.length());
        for (int count = 3; count <= 21; count++) {
            SpanSpotter s = new SpanSpotter();
            StringBuilder text = new StringBuilder("g0");
            for (int x = 1; x < count; x++) {
                text.append(',').append(99 - x);
            }
            due.is("one item", Due.reads(s, text.append(';').toString()), 1);
            due.is("N", s.all(4), count - 1);
            due.is("the first place", s.place(0, 0), 0);
            for (int x = 1; x < count; x++) {
                due.is("place " + x, s.place(x, 0), 99 - x);
            }
            due.is("no further place", s.place(count, 0), SpanSpotter.BAD);
        }
    }

    private void clearances() {
        Due due = d.says("nP,Q,C; the clearance of the places P to Q becomes C, where Q is at least"
                + " P");
        due.run(Due.with("g0,0,0,0;n1,2,30;"), "place(0, 1) = 5; place(1, 1) = 30;"
                + "place(2, 1) = 30; place(3, 1) = 5");
        due.run(Due.with("g0,0,0,0;n0,3,0;"), "place(0, 1) = 0; place(1, 1) = 0;"
                + "place(2, 1) = 0; place(3, 1) = 0");
        due.run(Due.with("g0,0,0,0;n0,0,1;n3,3,9;n02,02,07;"), "place(0, 1) = 1; place(1, 1) = 5;"
                + "place(2, 1) = 7; place(3, 1) = 9");
        faultBehind(due, "n1,0,5;", 4);
        faultBehind(due, "n2,1,5;", 4);
        faultBehind(due, "n3,3,5;", 1);
        faultBehind(due, "n0,3,5;", 3);
        faultBehind(due, "n0,2,31;", 6);
        faultBehind(due, "n0,2;", 4);
        faultBehind(due, "n0,2,5,", 6);
        String line = "g0,0,0,0,0,0,0,0,0,0,0,0,0;";
        items(due, line + "n9,12,1;", 2);
        fault(due, line + "n9,13,1;", line.length() + 4);
        fault(due, line + "n12,9,1;", line.length() + 5);
        fault(due, line + "n12,09,1;", line.length() + 6);
    }

    private void prices() {
        Due due = d.says("pP,C; the price of place P becomes C");
        due.run(Due.with("g0,0,0;p0,9;p1,0;p2,08;"), "place(0, 2) = 9; place(1, 2) = 0;"
                + "place(2, 2) = 8");
        faultBehind(due, "p3,0;", 1);
        faultBehind(due, "p2,10;", 4);
        faultBehind(due, "p2;", 2);
        faultBehind(due, "p2,1,", 4);
        items(due, TWENTY + ",0;p20,9;p00,9;", 3);
        fault(due, TWENTY + ",0;p21,9;", TWENTY.length() + 5);
    }

    private void bars() {
        Due due = d.says("bP; place P, from 1 to N - 1, is barred");
        due.run(Due.with("g0,0,0,0;b1;"), "place(0, 3) = 0; place(1, 3) = 1; place(2, 3) = 0;"
                + "place(3, 3) = 0; all(11) = 1");
        due.run(Due.with("g0,0,0,0;b02;"), "place(1, 3) = 0; place(2, 3) = 1; all(11) = 1");
        faultBehind(due, "b0;", 2);
        faultBehind(due, "b2;", 1);
        faultBehind(due, "b3;", 1);
        faultBehind(due, "b1,", 2);
        items(due, TWENTY + ";b18;b1;", 3);
        fault(due, TWENTY + ";b19;", TWENTY.length() + 3);
        items(due, TWENTY + ",0;b19;", 2);
        fault(due, TWENTY + ",0;b20;", TWENTY.length() + 5);
    }

    private void footAndRise() {
        Due due = d.says("fF,R; foot and rise");
        due.run(Due.with("g0,0,0;f60,20;"), "all(5) = 60; all(6) = 20; all(9) = 4");
        due.run(Due.with("g0,0,0;f1,0;"), "all(5) = 1; all(6) = 0");
        faultBehind(due, "f0,1;", 2);
        faultBehind(due, "f61,1;", 2);
        faultBehind(due, "f1,21;", 4);
        faultBehind(due, "f1;", 2);
        faultBehind(due, "f1,1,", 4);
    }

    private void sag() {
        Due due = d.says("sU,L; U and L");
        due.run(Due.with("g0,0,0;s20,200;"), "all(7) = 20; all(8) = 200");
        due.run(Due.with("g0,0,0;s0,1;"), "all(7) = 0; all(8) = 1");
        faultBehind(due, "s21,1;", 2);
        faultBehind(due, "s1,0;", 4);
        faultBehind(due, "s1,201;", 5);
        faultBehind(due, "s1;", 2);
        faultBehind(due, "s1,1,", 4);
    }

    private void reach() {
        Due due = d.says("rR; reach");
        due.run(Due.with("g0,0,0;r8;"), "all(9) = 8; all(6) = 4");
        due.run(Due.with("g0,0,0;r1;"), "all(9) = 1");
        faultBehind(due, "r0;", 2);
        faultBehind(due, "r9;", 1);
        faultBehind(due, "r1,", 2);
    }

    private void lift() {
        Due due = d.says("lL; lift");
        due.run(Due.with("g0,0,0;l9;"), "all(10) = 9; all(8) = 10");
        due.run(Due.with("g0,0,0;l9;l0;"), "all(10) = 0");
        faultBehind(due, "l10;", 2);
        faultBehind(due, "l1,", 2);
        faultBehind(due, "l;", 1);
    }

    private void ranges() {
        Due due = d.says("All numbers are in the ranges told above.");
        // Every least and every greatest value at once; the faults beyond them stand above.
        items(due, "g0,99,0;n0,0,0;n2,2,30;n0,2,0;p0,0;p2,9;b1;f1,0;f60,20;s0,1;s20,200;"
                + "r1;r8;l0;l9;", 15);
        fault(due, "g0,100,0;", 5);
        fault(due, "g-1,0,0;", 1);
        fault(due, "g+1,0,0;", 1);
    }

    private void digits() {
        Due due = d.says("They have one or two decimal digits, L one to three; leading zeros are"
                + " allowed.");
        items(due, "g00,01,09;", 1);
        items(due, HEIGHTS + "n00,02,05;", 2);
        items(due, HEIGHTS + "p02,09;", 2);
        items(due, HEIGHTS + "b01;", 2);
        items(due, HEIGHTS + "f01,00;", 2);
        items(due, HEIGHTS + "s00,1;", 2);
        items(due, HEIGHTS + "s00,01;", 2);
        items(due, HEIGHTS + "s00,001;", 2);
        items(due, HEIGHTS + "s01,099;", 2);
        items(due, HEIGHTS + "r08;", 2);
        items(due, HEIGHTS + "l09;", 2);
        due.run(Due.with("g00,01,90;f09,02;s03,012;r07;l04;"), "place(1, 0) = 1;"
                + "place(2, 0) = 90; all(5) = 9; all(6) = 2; all(7) = 3; all(8) = 12; all(9) = 7;"
                + "all(10) = 4");
        // No digit at all, and signs that are digits elsewhere.
        fault(due, "g,1,2;", 1);
        faultBehind(due, "r;", 1);
        faultBehind(due, "n,1,1;", 1);
        faultBehind(due, "n1,,1;", 3);
        faultBehind(due, "n1,1,;", 5);
        faultBehind(due, "s1,;", 3);
        faultBehind(due, "s,1;", 1);
        faultBehind(due, "ra;", 1);
        faultBehind(due, "r/;", 1);
        faultBehind(due, "r:;", 1);
        faultBehind(due, "r1/", 2);
        faultBehind(due, "r1:", 2);
    }

    private void severalTimes() {
        Due due = d.says("If something is given several times, the last item counts (but all barred"
                + " places stay barred).");
        due.run(Due.with("g0,0,0,0,0;r5;r6;r2;f9,9;f8,7;s1,2;s3,4;l5;l6;"), "all(9) = 2;"
                + "all(5) = 8; all(6) = 7; all(7) = 3; all(8) = 4; all(10) = 6");
        due.run(Due.with("g0,0,0,0,0;n0,4,9;n1,3,8;n2,2,7;n3,4,6;"), "place(0, 1) = 9;"
                + "place(1, 1) = 8; place(2, 1) = 7; place(3, 1) = 6; place(4, 1) = 6");
        due.run(Due.with("g0,0,0,0,0;n2,2,7;n0,4,5;p1,9;p2,8;p1,0;"), "place(2, 1) = 5;"
                + "place(1, 2) = 0; place(2, 2) = 8");
        due.run(Due.with("g0,0,0,0,0;b1;b3;b1;"), "place(1, 3) = 1; place(2, 3) = 0;"
                + "place(3, 3) = 1; all(11) = 2");
        items(due, "g0,0,0,0,0;b1;b3;b1;r1;r1;", 6);
    }

    private void notGiven() {
        Due due = d.says("What is not given is as at first.");
        SpanSpotter s = new SpanSpotter();
        due.run(s, "sets(0, 60) = 12; sets(1, 20) = 4; sets(2, 20) = 1; sets(3, 200) = 10;"
                + "sets(4, 8) = 4; sets(5, 9) = 0; lays(0, 1, 30) = 5; lays(1, 2, 9) = 0;"
                + "lays(1, 3, 1) = 0; lays(3, 0, 99) = 0; puts(0, 3) = 1");
        due.is("the heights alone", Due.reads(s, "g1,2,3,4;"), 1);
        due.run(s, "all(5) = 12; all(6) = 4; all(7) = 1; all(8) = 10; all(9) = 4; all(10) = 0;"
                + "all(11) = 0; all(0) = 0; place(0, 1) = 5; place(1, 2) = 0; place(1, 3) = 0;"
                + "place(3, 0) = 4");
        // Not as in the text that was read before it.
        due.is("a text with all", Due.reads(s, "g9,9,9,9;n0,3,9;p1,9;b2;f9,9;s9,9;r8;l9;"), 8);
        due.is("the heights alone", Due.reads(s, "g1,2,3;"), 1);
        due.run(s, "all(5) = 12; all(6) = 4; all(7) = 1; all(8) = 10; all(9) = 4; all(10) = 0;"
                + "all(11) = 0; place(0, 1) = 5; place(1, 2) = 0; place(2, 3) = 0");
        // Nor as in a text that had a fault behind what it gave.
        due.is("a fault", Due.reads(s, "g9,9,9,9;n0,3,9;p1,9;b2;f9,9;s9,9;r8;l9;x"), -10 - 40);
        due.is("the heights alone", Due.reads(s, "g1,2,3;"), 1);
        due.run(s, "all(4) = 2; all(5) = 12; all(7) = 1; all(9) = 4; all(11) = 0;"
                + "place(0, 1) = 5; place(1, 2) = 0");
    }

    private void cannotStand() {
        Due due = d.says("The fault of a text is the index (from 0 on) of the first byte that cannot"
                + " stand there;");
        fault(due, "x", 0);
        fault(due, "\177", 0);
        fault(due, "gg1,2,3;", 1);
        fault(due, "g1;2,3;", 2);
        fault(due, "g1,x,3;", 3);
        fault(due, "g1,2,3;x;r9;", 7);
        faultBehind(due, "r4,", 2);
        faultBehind(due, "n1;", 2);
        faultBehind(due, "p1;", 2);
        faultBehind(due, "s1;1;", 2);
        // The last byte of a full text.
        String full = HEIGHTS + "r4;".repeat(64) + "x";
        due.is("its length", full.length(), 200);
        fault(due, full, 199);
        // Every byte but ',' and digits behind a height, and but ';' and digits behind reach.
        for (int c = 0; c <= 127; c++) {
            boolean digit = c >= '0' && c <= '9';
            if (c != ',' && !digit) {
                fault(due, "g1" + (char) c, 2);
            }
            if (c != ';' && !digit) {
                fault(due, "g1,2,3;r1" + (char) c + ";", 9);
            }
            if ("npbfsrl".indexOf(c) < 0) {
                fault(due, "g1,2,3;" + (char) c + "1,1,1;", 7);
            }
            if (!digit) {
                fault(due, "g" + (char) c, 1);
            }
        }
    }

    private void tooGreat() {
        Due due = d.says("for a number that is too great (with as many of its digits as a number may"
                + " have) it is the index of the last one of these digits;");
        faultBehind(due, "r9;", 1);
        faultBehind(due, "r09;", 2);
        faultBehind(due, "r10;", 2);
        faultBehind(due, "r99;", 2);
        faultBehind(due, "r999;", 2);
        faultBehind(due, "r9x", 1);
        faultBehind(due, "r9", 1);
        faultBehind(due, "r99", 2);
        faultBehind(due, "l10;", 2);
        faultBehind(due, "l99;", 2);
        faultBehind(due, "f61,0;", 2);
        faultBehind(due, "f99,0;", 2);
        faultBehind(due, "f60,21;", 5);
        faultBehind(due, "s21,1;", 2);
        faultBehind(due, "s20,201;", 6);
        faultBehind(due, "s20,999;", 6);
        faultBehind(due, "s20,2010;", 6);
        faultBehind(due, "s20,201", 6);
        faultBehind(due, "n3,0,0;", 1);
        faultBehind(due, "n03,0,0;", 2);
        faultBehind(due, "n30,0,0;", 2);
        faultBehind(due, "n0,3,0;", 3);
        faultBehind(due, "n0,30,0;", 4);
        faultBehind(due, "n0,2,31;", 6);
        faultBehind(due, "n0,2,99;", 6);
        faultBehind(due, "p3,0;", 1);
        faultBehind(due, "p0,10;", 4);
        faultBehind(due, "b2;", 1);
        faultBehind(due, "b02;", 2);
        faultBehind(due, "b10;", 2);
        items(due, HEIGHTS + "r8;l9;f60,20;s20,200;n2,2,30;p2,9;b1;", 8);
    }

    private void tooSmall() {
        Due due = d.says("for a number that is too small (also a Q that is less than P) it is the"
                + " index after it;");
        faultBehind(due, "r0;", 2);
        faultBehind(due, "r00;", 3);
        faultBehind(due, "r0", 2);
        faultBehind(due, "r0x", 2);
        faultBehind(due, "f0,1;", 2);
        faultBehind(due, "f00,1;", 3);
        faultBehind(due, "s1,0;", 4);
        faultBehind(due, "s1,00;", 5);
        faultBehind(due, "s1,000;", 6);
        faultBehind(due, "s1,0", 4);
        faultBehind(due, "b0;", 2);
        faultBehind(due, "b00;", 3);
        faultBehind(due, "n1,0,5;", 4);
        faultBehind(due, "n1,00,5;", 5);
        faultBehind(due, "n2,1,5;", 4);
        faultBehind(due, "n02,01,5;", 6);
        faultBehind(due, "n2,1", 4);
        items(due, HEIGHTS + "r1;f1,0;s0,1;b1;n1,1,0;p0,0;l0;", 8);
    }

    private void furtherDigit() {
        Due due = d.says("a further digit after as many as a number may have cannot stand there.");
        fault(due, "g100,2,3;", 3);
        fault(due, "g001,2,3;", 3);
        fault(due, "g1,2,003;", 7);
        fault(due, TWENTY + ",000;", TWENTY.length() + 3);
        fault(due, TWENTY + ",001,0;", TWENTY.length() + 3);
        faultBehind(due, "r001;", 3);
        faultBehind(due, "r0001;", 3);
        faultBehind(due, "r000;", 3);
        faultBehind(due, "r080;", 3);
        faultBehind(due, "l000;", 3);
        faultBehind(due, "l001;", 3);
        faultBehind(due, "f010,1;", 3);
        faultBehind(due, "f1,001;", 5);
        faultBehind(due, "s001,1;", 3);
        faultBehind(due, "s1,0001;", 6);
        faultBehind(due, "s1,2000;", 6);
        faultBehind(due, "s1,1000;", 6);
        faultBehind(due, "n000,2,5;", 3);
        faultBehind(due, "n0,002,5;", 5);
        faultBehind(due, "n0,2,005;", 7);
        faultBehind(due, "p001,5;", 3);
        faultBehind(due, "p1,005;", 5);
        faultBehind(due, "b001;", 3);
    }

    private void endsTooEarly() {
        Due due = d.says("If the text ends too early (also if it is empty), the fault is its"
                + " length.");
        fault(due, "", 0);
        due.runNew("reads() = -10; told(0) = 0; told(1) = 0; type(103) = 1; reads() = -11;"
                + "clear() = 1; reads() = -10");
        String whole = "g10,20,30;n0,2,9;p2,8;b1;f11,5;s2,150;r3;l1;";
        for (int length = 0; length < whole.length(); length++) {
            if (length == 0 || whole.charAt(length - 1) != ';') {
                fault(due, whole.substring(0, length), length);
            }
        }
        items(due, whole, 8);
        // A full text that ends too early has the greatest fault.
        String open = HEIGHTS + "r4;".repeat(64) + "r";
        due.is("its length", open.length(), 200);
        fault(due, open, 200);
    }
}
