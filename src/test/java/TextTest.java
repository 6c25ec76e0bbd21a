/** Promises 1 to 4: a new object, type(), clear() and reads(), with the faults of texts. */
public final class TextTest {
    private static final Due DUE = new Due("texts");

    public static void main(String[] args) {
        newObject();
        typing();
        reading();
        defaults();
        heights();
        numbers();
        ranges();
        ends();
        longTexts();
        DUE.end();
    }

    private static void reads(String text, int want) {
        DUE.is("reads() of " + text, Due.reads(new SpanSpotter(), text), want);
    }

    /** The text, behind a valid first item of 7 bytes with N = 2, has its fault at this index. */
    private static void faultBehind(String text, int fault) {
        reads("g1,2,3;" + text, -10 - 7 - fault);
    }

    private static void newObject() {
        DUE.runNew("told(0) = 0; told(1) = 0; told(2) = 0; told(3) = 0; told(4) = 0;"
                + "all(0) = 0; all(1) = 0; all(2) = 2; all(3) = 0; all(4) = 10; all(5) = 12;"
                + "all(6) = 4; all(7) = 1; all(8) = 10; all(9) = 4; all(10) = 0; all(11) = 0;"
                + "all(12) = 9904; upper() = 0; lower() = 1; back() = -3");
        SpanSpotter s = new SpanSpotter();
        for (int x = 0; x <= 10; x++) {
            DUE.is("ground", s.place(x, 0), 0);
            DUE.is("clearance", s.place(x, 1), 5);
            DUE.is("price", s.place(x, 2), 0);
            DUE.is("barred", s.place(x, 3), 0);
            DUE.is("tower", s.place(x, 4), SpanSpotter.NONE);
        }
        DUE.is("NONE", SpanSpotter.NONE, -1);
        DUE.is("BAD", SpanSpotter.BAD, -2);
        DUE.is("NO", SpanSpotter.NO, -3);
        DUE.is("FULL", SpanSpotter.FULL, -4);
    }

    private static void typing() {
        SpanSpotter s = new SpanSpotter();
        DUE.run(s, "type(-1) = -2; type(128) = -2; type(-2147483648) = -2;"
                + "type(2147483647) = -2; told(0) = 4; told(3) = 0; clear() = 0;"
                + "type(0) = 1; type(127) = 2; told(3) = 2; clear() = 2; clear() = 0");
        for (int i = 1; i <= 200; i++) {
            DUE.is("type", s.type(i % 128), i);
        }
        DUE.run(s, "type(5) = -4; type(5) = -4; type(128) = -2; told(2) = 2; told(0) = 5;"
                + "told(3) = 200; clear() = 200; type(65) = 1; told(4) = 0");
    }

    private static void reading() {
        SpanSpotter s = new SpanSpotter();
        s.puts(0, 3);
        s.lays(4, 2, 7);
        int items = Due.reads(s, "g10,0,30;n0,1,9;p2,8;b1;f11,5;s2,15;r3;l1;");
        DUE.is("items", items, 8);
        DUE.run(s, "all(4) = 2; all(0) = 0; place(0, 0) = 10; place(1, 0) = 0; place(2, 0) = 30;"
                + "place(0, 1) = 9; place(1, 1) = 9; place(2, 1) = 5; place(0, 2) = 0;"
                + "place(2, 2) = 8; place(1, 3) = 1; all(5) = 11; all(6) = 5; all(7) = 2;"
                + "all(8) = 15; all(9) = 3; all(10) = 1; all(11) = 1; place(3, 0) = -2;"
                + "told(3) = 42; told(4) = 3; reads() = 8; told(4) = 4; back() = 3;"
                + "all(4) = 2; back() = 2; all(4) = 10; place(0, 4) = 3; place(4, 2) = 7");
        // A fault changes nothing and is no error.
        Due.reads(s, "g1,2,3;r9;");
        DUE.run(s, "reads() = -18; all(4) = 10; told(0) = 1; told(1) = 0; told(2) = 0;"
                + "told(3) = 10; told(4) = 2; place(0, 4) = 3");
    }

    private static void defaults() {
        SpanSpotter s = new SpanSpotter();
        DUE.run(s, "sets(0, 20) = 12; sets(1, 1) = 4; sets(2, 2) = 1; sets(3, 9) = 10;"
                + "sets(4, 8) = 4; sets(5, 9) = 0; lays(1, 1, 8) = 5; lays(1, 3, 1) = 0");
        DUE.is("one item", Due.reads(s, "g0,1,2,3;"), 1);
        DUE.run(s, "all(5) = 12; all(6) = 4; all(7) = 1; all(8) = 10; all(9) = 4; all(10) = 0;"
                + "place(1, 1) = 5; place(1, 3) = 0; all(4) = 3");
        // The last item counts, but barred places stay barred.
        DUE.is("again", Due.reads(s, "g0,1,2,3;b1;r5;b2;r6;n0,3,4;n1,1,0;p1,1;p1,2;b1;"), 10);
        DUE.run(s, "all(9) = 6; all(11) = 2; place(0, 1) = 4; place(1, 1) = 0; place(2, 1) = 4;"
                + "place(1, 2) = 2");
    }

    private static void heights() {
        reads("", -10);
        reads("n", -10);
        reads("r4;", -10);
        reads("G1,2,3;", -10);
        reads("g", -11);
        reads("g;", -11);
        reads("g,", -11);
        reads("g1", -12);
        reads("g1;", -12);
        reads("g1,", -13);
        reads("g1,,", -13);
        reads("g1,2", -14);
        reads("g1,2;", -14);
        reads("g1,2,", -15);
        reads("g1,2,;", -15);
        reads("g1,2,3", -16);
        reads("g1,2,3,", -17);
        reads("g1,2,3,;", -17);
        reads("g1,2,3;", 1);
        reads("g99,00,09;", 1);
        reads("g100,2,3;", -13);
        reads("g000,2,3;", -13);
        reads("g 1,2,3;", -11);
        reads("g1 ,2,3;", -12);
        reads("g-1,2,3;", -11);
        reads("g1,2,3;g1,2,3;", -17);
        reads("g1,2,3;;", -17);
        reads("g1,2,3; ", -17);
        String twenty = "g0,0,0,0,0,0,0,0,0,0,0,0,0,0,0,0,0,0,0,0";
        reads(twenty + ";", 1);
        reads(twenty + ",0;", 1);
        reads(twenty + ",0", -10 - 42);
        reads(twenty + ",0,0;", -10 - 42);
        reads(twenty + ",000;", -10 - 43);
        DUE.is("N", Due.with(twenty + ",7;").all(4), 20);
        DUE.is("the last place", Due.with(twenty + ",7;").place(20, 0), 7);
    }

    private static void numbers() {
        faultBehind("r", 1);
        faultBehind("r;", 1);
        faultBehind("rx", 1);
        faultBehind("r4", 2);
        faultBehind("r4,", 2);
        faultBehind("r0;", 2);
        faultBehind("r00;", 3);
        faultBehind("r000;", 3);
        faultBehind("r0", 2);
        faultBehind("r9", 1);
        faultBehind("r9;", 1);
        faultBehind("r09;", 2);
        faultBehind("r95;", 2);
        faultBehind("r10;", 2);
        faultBehind("r008;", 3);
        faultBehind("r081;", 3);
        faultBehind("s1,201;", 5);
        faultBehind("s1,2010;", 5);
        faultBehind("s1,2000;", 6);
        faultBehind("s1,0;", 4);
        faultBehind("s1,000;", 6);
        faultBehind("s1,0001;", 6);
        faultBehind("s001,1;", 3);
        faultBehind("s21,1;", 2);
        faultBehind("s1;", 2);
        faultBehind("s1,;", 3);
        faultBehind("l009;", 3);
        faultBehind("l10;", 2);
        faultBehind("f0,1;", 2);
        faultBehind("f61,1;", 2);
        faultBehind("f60,21;", 5);
        faultBehind("f5;", 2);
        faultBehind("f5,5,", 4);
        faultBehind("R4;", 0);
        faultBehind("r4;x", 3);
        faultBehind("r4;r", 4);
        reads("g1,2,3;r08;s20,200;s00,001;l09;f60,20;f01,00;", 7);
    }

    private static void ranges() {
        faultBehind("n3,2,1;", 1);
        faultBehind("n1,0,5;", 4);
        faultBehind("n2,01,5;", 5);
        faultBehind("n0,3,5;", 3);
        faultBehind("n0,03,5;", 4);
        faultBehind("n0,2,31;", 6);
        faultBehind("n0,2;", 4);
        faultBehind("n0;", 2);
        faultBehind("n0,2,5,", 6);
        faultBehind("n1,1", 4);
        faultBehind("p3,1;", 1);
        faultBehind("p2,10;", 4);
        faultBehind("p2;", 2);
        faultBehind("p2,9", 4);
        faultBehind("b0;", 2);
        faultBehind("b00;", 3);
        faultBehind("b2;", 1);
        faultBehind("b02;", 2);
        faultBehind("b;", 1);
        faultBehind("b1,", 2);
        faultBehind("n000,2,1;", 3);
        faultBehind("n0,002,1;", 5);
        faultBehind("n0,2,001;", 7);
        faultBehind("p000,1;", 3);
        faultBehind("p0,001;", 5);
        faultBehind("b001;", 3);
        reads("g1,2,3;n02,02,30;p00,09;p2,0;b01;b1;n0,2,0;n2,2,00;", 8);
        reads("g0,0,0,0,0,0,0,0,0,0,0,0;p11,9;b10;n9,11,3;", 4);
        reads("g0,0,0,0,0,0,0,0,0,0,0,0;p12,9;", -10 - 27);
        reads("g0,0,0,0,0,0,0,0,0,0,0,0;b11;", -10 - 27);
    }

    private static void ends() {
        String whole = "g10,20,30;n0,1,9;p2,8;b1;f11,5;s2,150;r3;l1;";
        for (int length = 0; length < whole.length(); length++) {
            String part = whole.substring(0, length);
            boolean ended = part.endsWith(";");
            int items = part.length() - part.replace(";", "").length();
            reads(part, ended ? items : -10 - length);
        }
        reads(whole, 8);
    }

    private static void longTexts() {
        String full = "g1,2,3;" + "r4;".repeat(64);
        DUE.is("its length", full.length(), 199);
        reads(full, 65);
        // The 201st byte and those after it are refused, so the text ends in its last item.
        reads(full + "r4;", -10 - 200);
        reads("g1,2,3;l01;" + "r4;".repeat(63), 65);
    }
}
