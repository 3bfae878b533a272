/** Each promise of the document by hand-made examples: ordinary inputs, edges, wrong inputs. */
public final class PromiseTest {
    private static final int NONE = PlaitBench.NONE;
    private static final int BIG = Integer.MAX_VALUE;
    private static final int SMALL = Integer.MIN_VALUE;

    private PromiseTest() {
    }

    public static void main(String[] args) {
        promise1();
        promise2();
        promise3();
        promise3InPlaceOfWhatItWas();
        promise3Rows();
        promise4();
        promise4Tokens();
        promise4Ranges();
        promise4Depth();
        promise4TooLong();
        promise4OtherPatterns();
        promise5And6();
        promise7();
        promise7Holds();
        promise7Form();
        promise8();
        promise9();
        promise10();
        promise11();
        promise12();
        promise13();
        promise14And15();
        promise16();
        promise16InPart();
        promise16Limits();
        promise17();
        promise18();
        promise18ByOne();
        promise18Limits();
        promise19();
        promise20();
        Check.end("PromiseTest");
    }

    private static void promise1() {
        PlaitBench x = new PlaitBench();
        Check.same("the constant NONE", -1, PlaitBench.NONE);
        for (int k = 0; k < 8; k++) {
            Check.same("1: size of a new object", NONE, x.size(k));
        }
        for (int what = 0; what < 5; what++) {
            Check.same("1: count of a new object", 0, x.count(what));
        }
        Check.none("1: left(0)", () -> x.left(0));
        Check.none("1: scored(0, 0)", () -> x.scored(0, 0));
        Check.none("1: sewn(0, 0)", () -> x.sewn(0, 0));
        Check.same("1: fault(0)", 0, x.fault(0));
        Check.same("1: fault(1)", NONE, x.fault(1));
        PlaitBench y = new PlaitBench();
        Check.pattern(y, 0, 3, "1+2-");
        y.bundle(0, 1, 5);
        Check.same("1: objects share no patterns", NONE, x.size(0));
        Check.same("1: objects share no bundles", 0, x.count(0));
    }

    private static void promise2() {
        PlaitBench x = new PlaitBench();
        for (int fed = 20; fed <= 800; fed += 20) {
            Check.same("2: feed", fed, x.feed(0x20202020, 0x20202020, 0x20202020, 0x20202020, 0x20202020));
            Check.same("2: count(3)", fed, x.count(3));
        }
        Check.same("2: feed beyond 800", NONE, x.feed(0, 0, 0, 0, 0));
        Check.same("2: nothing came", 800, x.count(3));
        Check.same("2: 800 blanks are a text", 0, x.pattern(0, 2, 800));
        Check.same("2: the highest byte is first", 20, x.feed(('1' << 24) | ('+' << 16) | ('2' << 8) | '-',
                ('3' << 24) | ('+' << 16) | ('4' << 8) | '-', ('5' << 24) | ('+' << 16) | ('6' << 8) | '-',
                ('1' << 24) | ('-' << 16) | ('2' << 8) | '+', ('3' << 24) | ('-' << 16) | ('4' << 8) | '+'));
        Check.same("2: its pattern", 0, x.pattern(0, 7, 20));
        rowIs("2: its row", x, 0, 1, -2, 3, -4, 5, -6, -1, 2, -3, 4);
        x.feed(-1, 0, 0, 0, 0);
        Check.same("2: a byte of 255 is no token", 1, x.pattern(0, 7, 20));
        Check.same("2: at its place", 0, x.fault(1));
        Check.same("2: the tape is behind what it had", 20, x.feed(('1' << 24) | ('+' << 16) | ('2' << 8) | '+', 0x20202020,
                0x20202020, 0x20202020, 0x20202020));
        Check.feed(x, "3+");
        Check.same("2: two feeds", 0, x.pattern(0, 7, 22));
        rowIs("2: of two feeds", x, 0, 1, 2, 3);
    }

    private static void promise3() {
        PlaitBench x = new PlaitBench();
        Check.feed(x, "1+1+1+1+1+1+1+1+1+1+");
        Check.illegal("3: no pattern -1", () -> x.pattern(-1, 3, 2));
        Check.illegal("3: no pattern 8", () -> x.pattern(8, 3, 2));
        Check.illegal("3: no pattern far off", () -> x.pattern(BIG, 3, 2));
        Check.illegal("3: no pattern far below", () -> x.pattern(SMALL, 3, 2));
        Check.illegal("3: one straw", () -> x.pattern(0, 1, 2));
        Check.illegal("3: eight straws", () -> x.pattern(0, 8, 2));
        Check.illegal("3: straws below 0", () -> x.pattern(0, SMALL, 2));
        Check.illegal("3: more than the tape", () -> x.pattern(0, 3, 21));
        Check.illegal("3: far more than the tape", () -> x.pattern(0, 3, BIG));
        Check.illegal("3: n below 0", () -> x.pattern(0, 3, -1));
        Check.same("3: the tape stays", 20, x.count(3));
        Check.same("3: no pattern came", NONE, x.size(0));
        Check.same("3: the first 4 bytes", 0, x.pattern(0, 2, 4));
        Check.same("3: two crossings", 2, x.size(0));
        Check.same("3: the tape is empty", 0, x.count(3));
        Check.same("3: no bytes at all", 0, x.pattern(7, 7, 0));
        Check.same("3: an empty pattern", 0, x.size(7));
    }

    private static void promise3InPlaceOfWhatItWas() {
        PlaitBench x = new PlaitBench();
        Check.same("3: a pattern", 0, Check.pattern(x, 2, 4, "1+3-"));
        Check.same("3: made of itself", 0, Check.pattern(x, 2, 4, "p2 2+ p2"));
        rowIs("3: made of itself", x, 2, 1, -3, 2, 1, -3);
        Check.same("3: a fault", 1, Check.pattern(x, 2, 5, "1+2+x"));
        Check.same("3: the tape is empty behind a fault", 0, x.count(3));
        rowIs("3: nothing changes with a fault", x, 2, 1, -3, 2, 1, -3);
        Check.same("3: nor do its straws", 4, x.about(2, 0));
        Check.same("3: a new one", 0, Check.pattern(x, 2, 2, "1-"));
        rowIs("3: in place of what it was", x, 2, -1);
        Check.same("3: of other straws", 2, x.about(2, 0));
        Check.same("3: with a form of its own", -1, x.about(2, 5));
        Check.same("3: no factors", 0, x.about(2, 6));
        Check.same("3: untwined", 2, x.untwined(2));
        Check.pattern(x, 2, 2, "1+1+");
        Check.same("3: the form is not the old one", 2, x.about(2, 5));
        Check.same("3: nor is untwined", 1, x.untwined(2));
    }

    private static void promise3Rows() {
        PlaitBench x = new PlaitBench();
        Check.pattern(x, 0, 5, "1+ 2- 4+");
        rowOf(x, "u(p0)", -4, 2, -1);
        rowOf(x, "m(p0)", -1, 2, -4);
        rowOf(x, "t(p0)", 4, -3, 1);
        rowOf(x, "u(p0 3+)", -3, -4, 2, -1);
        rowOf(x, "3+ u(1+) 3-", 3, -1, -3);
        rowOf(x, "3+ m(1+) 3-", 3, -1, -3);
        rowOf(x, "3+ t(1+ 2-) 3-", 3, 4, -3, -3);
        rowOf(x, "2(1+ 2(3-)) 4+", 1, -3, -3, 1, -3, -3, 4);
        rowOf(x, "1(1-)", -1);
        rowOf(x, "t(m(u(1+2+)))", 3, 4);
        rowOf(x, "u()m()t()9()");
        rowOf(x, "0003 ( 02 +\n)", 2, 2, 2);
        rowOf(x, "p00", 1, -2, 4);
        rowOf(x, "p 0 1 -", 1, -2, 4, -1);
        rowOf(x, "u(1+2(2+3+))4-", -3, -2, -3, -2, -1, -4);
    }

    private static void rowOf(PlaitBench x, String text, int... row) {
        Check.same("3: the fault of " + text, 0, Check.pattern(x, 1, 5, text));
        rowIs("3: " + text, x, 1, row);
    }

    private static void rowIs(String what, PlaitBench x, int k, int... row) {
        Check.same(what + ": its size", row.length, x.size(k));
        for (int j = 0; j < row.length && j < x.size(k); j++) {
            Check.same(what + ": crossing " + j, row[j], x.crossing(k, j));
        }
    }

    private static void promise4() {
        PlaitBench x = new PlaitBench();
        Check.pattern(x, 0, 3, "1+2+x");
        Check.same("4: fault(0)", 1, x.fault(0));
        Check.same("4: fault(1)", 4, x.fault(1));
        Check.illegal("4: a call that throws", () -> x.pattern(9, 3, 0));
        Check.same("4: leaves the fault", 1, x.fault(0));
        Check.same("4: leaves its place", 4, x.fault(1));
        Check.none("4: fault(2)", () -> x.fault(2));
        Check.none("4: fault(-1)", () -> x.fault(-1));
        Check.none("4: fault(far off)", () -> x.fault(BIG));
        Check.pattern(x, 0, 3, "1+2+");
        Check.same("4: no fault", 0, x.fault(0));
        Check.same("4: no place", NONE, x.fault(1));
    }

    private static void faultOf(String text, int straws, int kind, int place) {
        PlaitBench x = new PlaitBench();
        Check.pattern(x, 0, 3, "1+2-");
        Check.pattern(x, 4, 4, "50(6(1+))");
        Check.pattern(x, 5, 3, "50(6(2+))");
        Check.same("4: the fault of " + text, kind, Check.pattern(x, 6, straws, text));
        Check.same("4: fault(0) of " + text, kind, x.fault(0));
        Check.same("4: the place of " + text, place, x.fault(1));
        Check.same("4: whether a pattern came of " + text, kind == 0 ? 1 : 0, x.size(6) == NONE ? 0 : 1);
    }

    private static void promise4Tokens() {
        faultOf("x", 3, 1, 0);
        faultOf("  x", 3, 1, 2);
        faultOf("+", 3, 1, 0);
        faultOf("-", 3, 1, 0);
        faultOf("(", 3, 1, 0);
        faultOf("(1+)", 3, 1, 0);
        faultOf(")", 3, 1, 0);
        faultOf("1+)", 3, 1, 2);
        faultOf("1", 3, 1, 1);
        faultOf("1  ", 3, 1, 3);
        faultOf("9", 3, 1, 1);
        faultOf("9x", 3, 1, 1);
        faultOf("9)", 3, 1, 1);
        faultOf("99 1+", 3, 1, 3);
        faultOf("1 2+", 3, 1, 2);
        faultOf("1p0", 3, 1, 1);
        faultOf("1u(1+)", 3, 1, 1);
        faultOf("1+-", 3, 1, 2);
        faultOf("p", 3, 1, 1);
        faultOf("p ", 3, 1, 2);
        faultOf("pp0", 3, 1, 1);
        faultOf("p+", 3, 1, 1);
        faultOf("p(1+)", 3, 1, 1);
        faultOf("p-1", 3, 1, 1);
        faultOf("p0+", 3, 1, 2);
        faultOf("p0(1+)", 3, 1, 2);
        faultOf("u", 3, 1, 1);
        faultOf("u ", 3, 1, 2);
        faultOf("u)", 3, 1, 1);
        faultOf("m1+", 3, 1, 1);
        faultOf("tu(1+)", 3, 1, 1);
        faultOf("u(", 3, 1, 2);
        faultOf("u(1+", 3, 1, 4);
        faultOf("2(u(1+) ", 3, 1, 8);
        faultOf("2(1)", 3, 1, 3);
        faultOf("2(1+))", 3, 1, 5);
        faultOf("P0", 3, 1, 0);
        faultOf("1+\t2+", 3, 1, 2);
        faultOf("1+\r2+", 3, 1, 2);
        faultOf("1+\n2+", 3, 0, NONE);
        faultOf("1+\0", 3, 1, 2);
        faultOf("1*", 3, 1, 1);
        faultOf("1/", 3, 1, 1);
        faultOf("1:", 3, 1, 1);
        faultOf("1+" + (char) 177, 3, 1, 2);
    }

    private static void promise4Ranges() {
        faultOf("0+", 3, 2, 0);
        faultOf("3+", 3, 2, 0);
        faultOf("1+ 3 -", 3, 2, 3);
        faultOf("2+", 2, 2, 0);
        faultOf("6-", 7, 0, NONE);
        faultOf("7-", 7, 2, 0);
        faultOf("0000002+", 3, 0, NONE);
        faultOf("12-", 3, 2, 0);
        faultOf("4294967297+", 3, 2, 0);
        faultOf("18446744073709551617+", 3, 2, 0);
        faultOf("10000000000000000000000000000000000000000002+", 3, 2, 0);
        faultOf("0(1+)", 3, 2, 0);
        faultOf("1(1+)", 3, 0, NONE);
        faultOf("50(1+)", 3, 0, NONE);
        faultOf("000050(1+)", 3, 0, NONE);
        faultOf("51(1+)", 3, 2, 0);
        faultOf("51 (x", 3, 2, 0);
        faultOf("1+51(", 3, 2, 2);
        faultOf("4294967297(1+)", 3, 2, 0);
        faultOf("p8", 3, 2, 1);
        faultOf("p9", 3, 2, 1);
        faultOf("p 10", 3, 2, 2);
        faultOf("p00", 3, 0, NONE);
        faultOf("p000", 3, 2, 1);
        faultOf("p007", 3, 2, 1);
        faultOf("p4294967296", 3, 2, 1);
    }

    private static void promise4Depth() {
        faultOf("1(1(1(1(1(1(1(1(1+))))))))", 3, 0, NONE);
        faultOf("1(1(1(1(1(1(1(1(1(1+)))))))))", 3, 2, 17);
        faultOf("u(m(t(u(m(t(u(m(2+))))))))", 3, 0, NONE);
        faultOf("u(m(t(u(m(t(u(m(t(2+)))))))))", 3, 2, 17);
        faultOf("1(1(1(1(1(1(1(1(1()))))))))", 3, 2, 17);
        faultOf("1(1(1(1(1(1(1(1(51(", 3, 2, 16);
        faultOf("1(1(1(1(1(1(1(1((", 3, 1, 16);
        faultOf("1(1(1(1(1(1(1(1()))))))) 1(1(1(1(1(1(1(1(2+))))))))", 3, 0, NONE);
        faultOf("1(1(1(1(1(1(1(1(2+)1(2+))))))))", 3, 0, NONE);
        faultOf("1(1(1(1(1(1(1(1(2+)1(1(2+)))))))))", 3, 2, 22);
    }

    private static void promise4TooLong() {
        faultOf("50(50(1+))", 3, 2, 9);
        faultOf("50(6(1+))", 3, 0, NONE);
        faultOf("50(7(1+))", 3, 2, 8);
        faultOf("50(6(1+)) 1+", 3, 2, 11);
        faultOf("50(6(1+)) 1 -", 3, 2, 12);
        faultOf("50(6(1+)) 3+", 3, 2, 10);
        faultOf("50(6(1+)) p0", 3, 2, 11);
        faultOf("50(6(1+)) 5() u() 50(1()2())", 3, 0, NONE);
        faultOf("50(5(1+)) 49(1+) p0", 3, 2, 18);
        faultOf("50(5(1+)) 48(1+) p0", 3, 0, NONE);
        faultOf("p5", 3, 0, NONE);
        faultOf("u(m(t(p5)))", 3, 0, NONE);
        faultOf("1+p5", 3, 2, 3);
        faultOf("p5 1+", 3, 2, 4);
        faultOf("2(p5)", 3, 2, 4);
        faultOf("1(p5)", 3, 0, NONE);
        faultOf("2+ 10(p5)", 3, 2, 7);
        faultOf("50(5(1+)) 1(50(1+) 2+)", 3, 2, 20);
        faultOf("50(5(1+)) 2(26(1+))", 3, 2, 18);
        faultOf("50(5(1+)) 2(25(1+))", 3, 0, NONE);
    }

    private static void promise4OtherPatterns() {
        faultOf("p6", 3, 3, 1);
        faultOf("p7", 3, 3, 1);
        faultOf("1+ p 07", 3, 3, 5);
        faultOf("p0", 4, 3, 1);
        faultOf("p0", 3, 0, NONE);
        faultOf("p4", 3, 3, 1);
        faultOf("50(6(1+)) p7", 3, 3, 11);
        // Both faults are at one place: the least counts.
        faultOf("1+ p4", 3, 2, 4);
    }

    private static void promise5And6() {
        PlaitBench x = new PlaitBench();
        Check.pattern(x, 3, 4, "1+2-3+");
        Check.same("5: size", 3, x.size(3));
        Check.same("5: size of none", NONE, x.size(2));
        Check.same("5: size of -1", NONE, x.size(-1));
        Check.same("5: size of 8", NONE, x.size(8));
        Check.same("5: size far off", NONE, x.size(BIG));
        Check.same("5: size far below", NONE, x.size(SMALL));
        Check.pattern(x, 4, 4, "");
        Check.same("5: size of an empty one", 0, x.size(4));
        Check.same("6: the first crossing", 1, x.crossing(3, 0));
        Check.same("6: with -", -2, x.crossing(3, 1));
        Check.same("6: the last", 3, x.crossing(3, 2));
        Check.none("6: behind the last", () -> x.crossing(3, 3));
        Check.none("6: ahead of the first", () -> x.crossing(3, -1));
        Check.none("6: far off", () -> x.crossing(3, BIG));
        Check.none("6: none in an empty one", () -> x.crossing(4, 0));
        Check.none("6: no pattern", () -> x.crossing(0, 0));
        Check.none("6: no pattern 8", () -> x.crossing(8, 0));
        Check.none("6: no pattern -1", () -> x.crossing(-1, 0));
    }

    private static void aboutIs(String text, int straws, int home, int rings, int levels) {
        PlaitBench x = new PlaitBench();
        Check.pattern(x, 1, straws, text);
        Check.same("7: STRAWS of " + text, straws, x.about(1, 0));
        Check.same("7: HOME of " + text, home, x.about(1, 1));
        Check.same("7: RINGS of " + text, rings, x.about(1, 2));
        Check.same("7: LEVELS of " + text, levels, x.about(1, 4));
    }

    private static void promise7() {
        aboutIs("", 2, 1, 2, 0);
        aboutIs("", 7, 1, 7, 0);
        aboutIs("1+", 2, 2, 1, 1);
        aboutIs("1+1-", 2, 1, 2, 2);
        aboutIs("1+2-", 3, 3, 1, 2);
        aboutIs("1+3+", 4, 2, 2, 1);
        aboutIs("1+3+2+", 4, 4, 1, 2);
        aboutIs("1+2+3-4-5+6+", 7, 7, 1, 6);
        aboutIs("1+3+5+2-4-6-", 7, 7, 1, 2);
        aboutIs("1+2+ 4+5+6+", 7, 12, 2, 3);
        aboutIs("1+ 3+4+5+6+", 7, 10, 2, 4);
        aboutIs("1+ 3+4+ 6+", 7, 6, 3, 2);
        aboutIs("1+ 6+ 1+ 6- 6+", 7, 2, 6, 3);
        aboutIs("2+ 6+ 1+ 3+ 2+", 7, 2, 4, 3);
        PlaitBench x = new PlaitBench();
        Check.pattern(x, 1, 3, "1+2-");
        Check.none("7: what 7", () -> x.about(1, 7));
        Check.none("7: what -1", () -> x.about(1, -1));
        Check.none("7: what far off", () -> x.about(1, BIG));
        Check.none("7: no pattern", () -> x.about(0, 0));
        Check.none("7: no pattern -1", () -> x.about(-1, 0));
        Check.none("7: no pattern 8", () -> x.about(8, 0));
    }

    private static void holdsIs(int due, int straws, String text) {
        PlaitBench x = new PlaitBench();
        Check.pattern(x, 0, straws, text);
        Check.same("7: HOLDS of " + straws + " straws " + text, due, x.about(0, 3));
    }

    private static void promise7Holds() {
        holdsIs(1, 3, "1+2-");
        holdsIs(1, 3, "1-2+");
        holdsIs(0, 3, "1+2+");
        holdsIs(1, 2, "1+");
        holdsIs(1, 2, "1-");
        holdsIs(1, 2, "1+1+");
        holdsIs(0, 2, "1+1-");
        holdsIs(1, 2, "1+1+1+");
        holdsIs(0, 2, "");
        holdsIs(0, 3, "1+");
        holdsIs(0, 4, "1+3+");
        holdsIs(1, 4, "1+3+2-");
        holdsIs(1, 4, "1+2-3+");
        holdsIs(0, 4, "1+2-3-");
        holdsIs(1, 5, "1+2-3+4-");
        holdsIs(1, 5, "1+3+2-4-");
        holdsIs(1, 6, "1+3+5+2-4-");
        holdsIs(1, 7, "1+3+5+2-4-6-");
        holdsIs(0, 7, "1+3+5+2-4-6+");
        holdsIs(1, 3, "50(1+2-)");
        holdsIs(1, 3, "1+2-1+");
        holdsIs(0, 3, "1+2-1-");
        holdsIs(1, 3, "2-1+");
        holdsIs(0, 4, "1+1-2+2-3+3-");
        holdsIs(0, 7, "1+2-3+4-5+");
    }

    private static void promise7Form() {
        PlaitBench x = new PlaitBench();
        Check.pattern(x, 0, 3, "1+2-");
        Check.same("7: POWER", -1, x.about(0, 5));
        Check.same("7: FACTORS", 2, x.about(0, 6));
        Check.pattern(x, 0, 2, "5(1-) 2(1+)");
        Check.same("7: POWER of two straws", -3, x.about(0, 5));
        Check.same("7: no FACTORS of two straws", 0, x.about(0, 6));
        Check.pattern(x, 0, 4, "");
        Check.same("7: POWER of an empty row", 0, x.about(0, 5));
        Check.same("7: FACTORS of an empty row", 0, x.about(0, 6));
        Check.pattern(x, 0, 4, "50(1-)");
        Check.same("7: POWER of 50 undone", -50, x.about(0, 5));
        Check.same("7: FACTORS of 50 undone", 50, x.about(0, 6));
        Check.pattern(x, 0, 4, "7(1+2+3+1+2+1+)");
        Check.same("7: POWER of D seven times", 7, x.about(0, 5));
        Check.same("7: FACTORS of D seven times", 0, x.about(0, 6));
        Check.pattern(x, 0, 7, "50(6(6+))");
        Check.same("7: FACTORS of a full row", 300, x.about(0, 6));
        Check.pattern(x, 0, 7, "50(6(6-))");
        Check.same("7: POWER of a full row undone", -300, x.about(0, 5));
        Check.same("7: FACTORS of a full row undone", 300, x.about(0, 6));
    }

    private static int permutation(int... to) {
        int code = 0;
        for (int place = 0; place < to.length; place++) {
            code += to[place] << 3 * place;
        }
        return code;
    }

    private static void promise8() {
        PlaitBench x = new PlaitBench();
        Check.pattern(x, 0, 3, "1+2-");
        Check.same("8: factor 0", permutation(1, 3, 2), x.factor(0, 0));
        Check.same("8: factor 1", permutation(2, 3, 1), x.factor(0, 1));
        Check.none("8: factor 2", () -> x.factor(0, 2));
        Check.none("8: factor -1", () -> x.factor(0, -1));
        Check.none("8: factor far off", () -> x.factor(0, BIG));
        Check.none("8: no pattern", () -> x.factor(1, 0));
        Check.none("8: no pattern 8", () -> x.factor(8, 0));
        Check.pattern(x, 0, 4, "1+2+3+");
        Check.same("8: one simple row", 1, x.about(0, 6));
        Check.same("8: where each straw goes", permutation(4, 1, 2, 3), x.factor(0, 0));
        Check.pattern(x, 0, 7, "6+");
        Check.same("8: of seven straws", permutation(1, 2, 3, 4, 5, 7, 6), x.factor(0, 0));
        Check.pattern(x, 0, 4, "1+ 3+ 3+ 1+");
        Check.same("8: all that it can", permutation(2, 1, 4, 3), x.factor(0, 0));
        Check.same("8: and again", permutation(2, 1, 4, 3), x.factor(0, 1));
        Check.same("8: and no more", 2, x.about(0, 6));
        // The factors behind a D that came to the front are counted from 0 on.
        Check.pattern(x, 0, 3, "1+2+1+ 2+");
        Check.same("8: behind a D", permutation(1, 3, 2), x.factor(0, 0));
        Check.none("8: no other behind a D", () -> x.factor(0, 1));
    }

    private static void alikeIs(int due, int straws, String one, String other) {
        PlaitBench x = new PlaitBench();
        Check.pattern(x, 0, straws, one);
        Check.pattern(x, 1, straws, other);
        Check.same("9: " + one + " and " + other, due, x.alike(0, 1) ? 1 : 0);
        Check.same("9: " + other + " and " + one, due, x.alike(1, 0) ? 1 : 0);
    }

    private static void promise9() {
        alikeIs(1, 3, "1+2+1+", "2+1+2+");
        alikeIs(1, 3, "1-2-1-", "2-1-2-");
        alikeIs(0, 3, "1+2-1+", "2+1-2+");
        alikeIs(1, 3, "1+2+1-", "2-1+2+");
        alikeIs(1, 4, "1+3-", "3-1+");
        alikeIs(0, 4, "1+2-", "2-1+");
        alikeIs(1, 4, "1+1-", "");
        alikeIs(0, 4, "1+1+", "");
        alikeIs(0, 4, "1+", "1-");
        alikeIs(0, 4, "1+", "3+");
        alikeIs(0, 7, "1+2+3+4+5+6+", "6+5+4+3+2+1+");
        alikeIs(1, 7, "u(1+2-3+) 1+2-3+ 6-", "6-");
        alikeIs(1, 4, "2(1+2+3+1+2+1+) 2-", "2- 2(1+2+3+1+2+1+)");
        alikeIs(0, 4, "1+2+3+1+2+1+ 1-", "1- 1+2+3+1+2+1+");
        alikeIs(1, 4, "1+2+3+1+2+1+ 1-", "3- 1+2+3+1+2+1+");
        PlaitBench x = new PlaitBench();
        Check.pattern(x, 0, 3, "1+");
        Check.pattern(x, 7, 4, "1+");
        Check.pattern(x, 1, 3, "");
        Check.pattern(x, 2, 4, "");
        Check.holds("9: with itself", x.alike(0, 0));
        Check.holds("9: of unlike straws", !x.alike(0, 7));
        Check.holds("9: empty, of unlike straws", !x.alike(1, 2));
        Check.none("9: no second", () -> x.alike(0, 3) ? 1 : 0);
        Check.none("9: no first", () -> x.alike(3, 0) ? 1 : 0);
        Check.none("9: none at all", () -> x.alike(3, 3) ? 1 : 0);
        Check.none("9: -1", () -> x.alike(-1, 0) ? 1 : 0);
        Check.none("9: 8", () -> x.alike(0, 8) ? 1 : 0);
    }

    private static void untwinedIs(int due, int straws, String text) {
        PlaitBench x = new PlaitBench();
        Check.pattern(x, 0, straws, text);
        Check.same("10: untwined, " + straws + " straws " + text, due, x.untwined(0));
        Check.same("10: asked again", due, x.untwined(0));
    }

    private static void promise10() {
        untwinedIs(1, 5, "");
        untwinedIs(1, 3, "1+1-");
        untwinedIs(2, 2, "1+");
        untwinedIs(1, 2, "1-1-");
        untwinedIs(2, 3, "1+2+1+");
        untwinedIs(2, 3, "1-2-1-");
        untwinedIs(3, 3, "1+2+");
        untwinedIs(3, 3, "1-2-");
        untwinedIs(7, 7, "1+2+3+4+5+6+");
        untwinedIs(6, 7, "1+2+3+4+5+6+1+");
        untwinedIs(1, 4, "2(1-2-3-1-2-1-)");
        untwinedIs(NONE, 3, "1+2-");
        untwinedIs(NONE, 3, "1+");
        untwinedIs(7, 7, "8(1+2+3+4+5+6+)");
        untwinedIs(7, 7, "13(1+2+3+4+5+6+)");
        untwinedIs(NONE, 7, "15(1+2+3+4+5+6+)");
        // Of 7 times 84 crossings, of 7 times 86; of 5 times 120, of 5 times 122; of 2 times 300.
        untwinedIs(7, 7, "39(1+1-) 1+2+3+4+5+6+");
        untwinedIs(NONE, 7, "40(1+1-) 1+2+3+4+5+6+");
        untwinedIs(5, 5, "29(2(1+1-)) 1+2+3+4+");
        untwinedIs(NONE, 5, "29(2(1+1-)) 3-3+ 1+2+3+4+");
        untwinedIs(2, 5, "29(5(1+1-)) 1+2+3+4+1+2+3+1+2+1+");
        untwinedIs(1, 7, "50(3(1+1-))");
        PlaitBench x = new PlaitBench();
        Check.none("10: no pattern", () -> x.untwined(0));
        Check.none("10: no pattern -1", () -> x.untwined(-1));
        Check.none("10: no pattern 8", () -> x.untwined(8));
    }

    private static void promise11() {
        PlaitBench x = new PlaitBench();
        Check.pattern(x, 0, 4, "1+2+3-");
        Check.same("11: from 1", 4, x.goes(0, 1));
        Check.same("11: from 2", 1, x.goes(0, 2));
        Check.same("11: from 3", 2, x.goes(0, 3));
        Check.same("11: from 4", 3, x.goes(0, 4));
        Check.none("11: from 0", () -> x.goes(0, 0));
        Check.none("11: from 5", () -> x.goes(0, 5));
        Check.none("11: from -1", () -> x.goes(0, -1));
        Check.none("11: from far off", () -> x.goes(0, BIG));
        Check.none("11: no pattern", () -> x.goes(1, 1));
        Check.none("11: no pattern 8", () -> x.goes(8, 1));
        Check.pattern(x, 0, 7, "");
        Check.same("11: nothing goes", 7, x.goes(0, 7));
    }

    private static void promise12() {
        PlaitBench x = new PlaitBench();
        Check.pattern(x, 0, 3, "1+1+2-2-2-2-");
        Check.same("12: 1 and 2", 2, x.twine(0, 1, 2));
        Check.same("12: 2 and 1", 2, x.twine(0, 2, 1));
        Check.same("12: 2 and 3", -4, x.twine(0, 2, 3));
        Check.same("12: 1 and 3", 0, x.twine(0, 1, 3));
        Check.pattern(x, 1, 3, "1+2+");
        Check.same("12: made HOME times", 2, x.twine(1, 1, 3));
        Check.pattern(x, 2, 2, "1-");
        Check.same("12: made twice", -2, x.twine(2, 1, 2));
        Check.pattern(x, 3, 7, "1+2+ 4+5+6+");
        Check.same("12: made 12 times, of one ring", 8, x.twine(3, 1, 2));
        Check.same("12: made 12 times, of the other ring", 6, x.twine(3, 4, 7));
        Check.same("12: made 12 times, of two rings", 0, x.twine(3, 1, 7));
        Check.none("12: both are one", () -> x.twine(0, 2, 2));
        Check.none("12: place 0", () -> x.twine(0, 0, 2));
        Check.none("12: place 4", () -> x.twine(0, 1, 4));
        Check.none("12: far off", () -> x.twine(0, BIG, SMALL));
        Check.none("12: no pattern", () -> x.twine(7, 1, 2));
        Check.none("12: no pattern -1", () -> x.twine(-1, 1, 2));
    }

    private static void promise13() {
        PlaitBench x = new PlaitBench();
        Check.pattern(x, 0, 4, "1+3+1-");
        Check.same("13: over twice", 6, x.use(0, 1));
        Check.same("13: never over", 4, x.use(0, 2));
        Check.same("13: over once", 5, x.use(0, 3));
        Check.same("13: under once", 4, x.use(0, 4));
        Check.none("13: place 0", () -> x.use(0, 0));
        Check.none("13: place 5", () -> x.use(0, 5));
        Check.none("13: far off", () -> x.use(0, SMALL));
        Check.none("13: no pattern", () -> x.use(1, 1));
        Check.none("13: no pattern 8", () -> x.use(8, 1));
        Check.pattern(x, 0, 3, "");
        Check.same("13: of an empty row", 0, x.use(0, 3));
    }

    private static void promise14And15() {
        PlaitBench x = new PlaitBench();
        Check.same("14: field -1", NONE, x.bundle(-1, 1, 1));
        Check.same("14: field 32", NONE, x.bundle(32, 1, 1));
        Check.same("14: width 0", NONE, x.bundle(0, 0, 1));
        Check.same("14: width 10", NONE, x.bundle(0, 10, 1));
        Check.same("14: no straws", NONE, x.bundle(0, 1, 0));
        Check.same("14: straws below 0", NONE, x.bundle(0, 1, SMALL));
        Check.same("14: too many straws", NONE, x.bundle(0, 1, 5001));
        Check.same("14: none came", 0, x.count(0));
        Check.same("14: the least", 0, x.bundle(0, 1, 1));
        Check.same("14: the most", 1, x.bundle(31, 9, 5000));
        Check.same("15: left of 0", 1, x.left(0));
        Check.same("15: left of 1", 5000, x.left(1));
        Check.none("15: left of 2", () -> x.left(2));
        Check.none("15: left of -1", () -> x.left(-1));
        Check.none("15: left far off", () -> x.left(BIG));
        for (int number = 2; number < 40; number++) {
            Check.same("14: the next", number, x.bundle(1, 2, number));
        }
        Check.same("14: there are 40", NONE, x.bundle(1, 2, 3));
        Check.same("14: still 40", 40, x.count(0));
        Check.same("15: left of 39", 39, x.left(39));
        Check.none("15: left of 40", () -> x.left(40));
    }

    /** Pattern 0 holds, pattern 1 doesn't; uses of pattern 0 are 5, 4, 5, its home is 3. */
    private static PlaitBench benchWithPlait() {
        PlaitBench x = new PlaitBench();
        Check.pattern(x, 0, 3, "1+2-");
        Check.pattern(x, 1, 3, "1+2+");
        return x;
    }

    private static void promise16() {
        PlaitBench x = benchWithPlait();
        x.bundle(5, 2, 2);
        x.bundle(6, 3, 50);
        x.bundle(31, 2, 3);
        x.bundle(7, 2, 4);
        Check.same("16: too few straws", NONE, x.score(0, 80, 2));
        Check.same("16: none was taken", 2 + 50 + 3 + 4, x.count(4));
        Check.same("16: no score came", 0, x.count(1));
        Check.same("16: of two bundles", 0, x.score(0, 6, 2));
        Check.same("16: the first is used up", 0, x.left(0));
        Check.same("16: not of another width", 50, x.left(1));
        Check.same("16: the second in part", 2, x.left(2));
        Check.same("16: not the third", 4, x.left(3));
        Check.same("17: fields 5 and 31", 1 << 5 | 1 << 31, x.scored(0, 3));
        Check.same("16: as many as there are", 1, x.score(0, 42, 2));
        Check.same("16: all used up", 0, x.left(2) + x.left(3));
        Check.same("17: no field of an empty bundle", 1 << 31 | 1 << 7, x.scored(1, 3));
        Check.same("16: no straws", NONE, x.score(0, 1, 2));
        Check.same("16: no bundles", NONE, x.score(0, 1, 4));
        Check.same("16: of the other width", 2, x.score(0, 1, 3));
        Check.same("16: took 3", 47, x.left(1));
    }

    private static void promise16InPart() {
        PlaitBench x = benchWithPlait();
        x.bundle(0, 1, 5000);
        // Each straw comes through uses 5, 5 and 4 or the like: 21 times use 98, 22 times 102, 103 or 103.
        Check.same("16: 21 times", 0, x.score(0, 21, 1));
        Check.same("17: one for each place", 3, x.scored(0, 4));
        Check.same("16: 22 times", 1, x.score(0, 22, 1));
        Check.same("17: two for each place", 6, x.scored(1, 4));
        Check.pattern(x, 2, 2, "1+");
        // Straw 1 uses 3 and 2 in turn, straw 2 uses 2 and 3: 40 times use just 100.
        Check.same("16: 40 times", 2, x.score(2, 40, 1));
        Check.same("17: just 100 for each", 2, x.scored(2, 4));
        Check.same("16: 41 times", 3, x.score(2, 41, 1));
        Check.same("17: 103 and 102", 4, x.scored(3, 4));
        Check.pattern(x, 2, 2, "1+1+");
        // Each straw lies over once: 5 each time.
        Check.same("16: 20 times", 4, x.score(2, 20, 1));
        Check.same("17: of 5 each time", 2, x.scored(4, 4));
        Check.same("16: 21 times", 5, x.score(2, 21, 1));
        Check.same("17: a little more", 4, x.scored(5, 4));
    }

    private static void promise16Limits() {
        PlaitBench x = benchWithPlait();
        x.bundle(0, 1, 5000);
        x.bundle(0, 9, 5000);
        Check.same("16: no pattern", NONE, x.score(2, 1, 1));
        Check.same("16: no pattern -1", NONE, x.score(-1, 1, 1));
        Check.same("16: no pattern 8", NONE, x.score(8, 1, 1));
        Check.same("16: it doesn't hold", NONE, x.score(1, 1, 1));
        Check.same("16: no times", NONE, x.score(0, 0, 1));
        Check.same("16: times below 0", NONE, x.score(0, SMALL, 1));
        Check.same("16: too many times", NONE, x.score(0, 201, 1));
        Check.same("16: width 0", NONE, x.score(0, 1, 0));
        Check.same("16: width 10", NONE, x.score(0, 1, 10));
        Check.same("16: nothing changes", 10000, x.count(4));
        Check.same("16: the most times", 0, x.score(0, 200, 9));
        for (int number = 1; number < 60; number++) {
            Check.same("16: the next", number, x.score(0, 1, 1));
        }
        Check.same("16: there are 60", NONE, x.score(0, 1, 1));
        Check.same("16: none taken", 5000 - 59 * 3, x.left(0));
        Check.same("16: still 60", 60, x.count(1));
    }

    private static void promise17() {
        PlaitBench x = benchWithPlait();
        x.bundle(4, 3, 100);
        x.score(0, 10, 3);
        Check.same("17: LENGTH", 40, x.scored(0, 0));
        Check.same("17: LENGTH left", 40, x.scored(0, 1));
        Check.same("17: its width", 3, x.scored(0, 2));
        Check.same("17: FIELDS", 16, x.scored(0, 3));
        Check.same("17: straws", 3, x.scored(0, 4));
        x.hat(3, 3);
        Check.same("17: LENGTH stays", 40, x.scored(0, 0));
        Check.same("17: LENGTH left goes", 30, x.scored(0, 1));
        Check.pattern(x, 0, 3, "1+");
        Check.same("17: a score outlives its pattern", 40, x.scored(0, 0));
        Check.none("17: what 5", () -> x.scored(0, 5));
        Check.none("17: what -1", () -> x.scored(0, -1));
        Check.none("17: no score 1", () -> x.scored(1, 0));
        Check.none("17: no score -1", () -> x.scored(-1, 0));
        Check.none("17: far off", () -> x.scored(BIG, 0));
    }

    private static void promise18() {
        PlaitBench x = benchWithPlait();
        x.bundle(1, 2, 100);
        x.bundle(2, 3, 100);
        // Turns of width 2: 6 + 1, 18 + 1, 31 + 1.
        x.score(0, 2, 2);
        x.score(0, 50, 3);
        x.score(0, 2, 2);
        Check.same("18: too little", NONE, x.hat(2, 4));
        Check.same("18: nothing was taken", 8, x.scored(0, 1));
        Check.same("18: nor of the other", 8, x.scored(2, 1));
        Check.same("18: no hat came", 0, x.count(2));
        Check.same("18: one turn", 0, x.hat(2, 2));
        Check.same("18: of the first score", 1, x.scored(0, 1));
        Check.same("18: of two scores", 1, x.hat(2, 2));
        Check.same("18: the first is used up", 0, x.scored(0, 1));
        Check.same("18: not of another width", 200, x.scored(1, 1));
        Check.same("18: the other in part", 2, x.scored(2, 1));
        Check.same("19: its scores", 1 << 0 | 1 << 2, x.sewn(1, 3));
        x.score(0, 6, 2);
        Check.same("18: two turns, all that there is", 2, x.hat(2, 4));
        Check.same("19: no used up score", 1 << 2 | 1 << 3, x.sewn(2, 3));
        Check.same("18: all used up", 0, x.scored(3, 1));
        Check.same("18: nothing left", NONE, x.hat(2, 2));
    }

    private static void promise18ByOne() {
        PlaitBench x = benchWithPlait();
        Check.pattern(x, 2, 2, "1+");
        x.bundle(3, 2, 100);
        // A turn of width 2 is 7 long: it is 1 more than 6, and takes 1 of the next score.
        x.score(2, 3, 2);
        Check.same("18: one too little", NONE, x.hat(2, 2));
        x.score(2, 1, 2);
        Check.same("18: one of the next", 0, x.hat(2, 2));
        Check.same("18: one is left", 1, x.scored(1, 1));
        Check.same("19: both scores", 3, x.sewn(0, 3));
    }

    private static void promise18Limits() {
        PlaitBench x = benchWithPlait();
        x.bundle(1, 1, 5000);
        x.bundle(2, 3, 5000);
        x.bundle(2, 9, 100);
        for (int made = 0; made < 10; made++) {
            x.score(0, 200, 1);
            x.score(0, 200, 3);
        }
        x.score(0, 100, 9);
        Check.same("18: width 0", NONE, x.hat(0, 1));
        Check.same("18: width 0, radius 0", NONE, x.hat(0, 0));
        Check.same("18: width -1", NONE, x.hat(-1, 1));
        Check.same("18: width 10", NONE, x.hat(10, 10));
        Check.same("18: radius 0", NONE, x.hat(1, 0));
        Check.same("18: radius below 0", NONE, x.hat(1, -1));
        Check.same("18: radius far below", NONE, x.hat(1, SMALL));
        Check.same("18: no multiple", NONE, x.hat(3, 4));
        Check.same("18: less than the width", NONE, x.hat(3, 2));
        Check.same("18: radius 401", NONE, x.hat(1, 401));
        Check.same("18: the widest", 0, x.hat(9, 9));
        Check.same("19: of the widest", 29, x.sewn(0, 0));
        for (int number = 1; number < 60; number++) {
            Check.same("18: the next", number, x.hat(1, 1));
        }
        Check.same("18: there are 60", NONE, x.hat(1, 1));
        Check.same("18: still 60", 60, x.count(2));
        Check.same("18: nothing changes", 800 - 59 * 4, x.scored(0, 1));

        PlaitBench y = new PlaitBench();
        Check.pattern(y, 0, 2, "50(6(1+))");
        y.bundle(1, 1, 5000);
        y.bundle(1, 1, 5000);
        y.bundle(1, 1, 5000);
        y.bundle(1, 1, 5000);
        for (int made = 0; made < 5; made++) {
            y.score(0, 200, 1);
        }
        Check.same("16: of a full row", 120000, y.scored(4, 0));
        Check.same("18: radius 401, though there is enough", NONE, y.hat(1, 401));
        Check.same("18: radius 400", 0, y.hat(1, 400));
        long due = 0;
        for (long turn = 1; turn <= 400; turn++) {
            due += 710 * (2 * turn - 1) / 226 + 1;
        }
        Check.same("19: of 400 turns", due, y.sewn(0, 0));
        Check.same("19: 400 turns", 400, y.sewn(0, 1));
    }

    private static void promise19() {
        PlaitBench x = benchWithPlait();
        x.bundle(1, 1, 3);
        x.bundle(31, 1, 5000);
        x.score(0, 1, 1);
        x.score(0, 10, 1);
        Check.same("18: a hat", 0, x.hat(1, 2));
        Check.same("19: LENGTH in all", 4 + 10, x.sewn(0, 0));
        Check.same("19: turns", 2, x.sewn(0, 1));
        Check.same("19: FIELDS", 1 << 1 | 1 << 31, x.sewn(0, 2));
        Check.same("19: SCORES", 3, x.sewn(0, 3));
        Check.none("19: what 4", () -> x.sewn(0, 4));
        Check.none("19: what -1", () -> x.sewn(0, -1));
        Check.none("19: no hat 1", () -> x.sewn(1, 0));
        Check.none("19: no hat -1", () -> x.sewn(-1, 0));
        Check.none("19: far off", () -> x.sewn(BIG, 0));
        PlaitBench y = benchWithPlait();
        y.bundle(1, 1, 5000);
        for (int made = 0; made < 40; made++) {
            y.score(0, 1, 1);
        }
        for (int number = 0; number < 40; number++) {
            Check.same("18: of one score each", number, y.hat(1, 1));
            Check.same("19: score " + number, number < 31 ? 1 << number : 0, y.sewn(number, 3));
            Check.same("19: its field", 2, y.sewn(number, 2));
        }
    }

    private static void promise20() {
        PlaitBench x = benchWithPlait();
        x.bundle(1, 1, 30);
        x.bundle(1, 2, 20);
        x.score(0, 4, 1);
        x.score(0, 4, 2);
        x.score(0, 4, 2);
        x.hat(1, 1);
        Check.feed(x, "1+");
        Check.same("20: BUNDLES", 2, x.count(0));
        Check.same("20: SCORES", 3, x.count(1));
        Check.same("20: HATS", 1, x.count(2));
        Check.same("20: bytes", 20, x.count(3));
        Check.same("20: straws left", 50 - 9, x.count(4));
        Check.none("20: what 5", () -> x.count(5));
        Check.none("20: what -1", () -> x.count(-1));
        Check.none("20: what far off", () -> x.count(SMALL));
    }
}
