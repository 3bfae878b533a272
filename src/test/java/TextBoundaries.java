/** The boundaries of texts, their rows and their faults: part 1 of the terms, promises 2 to 4. */
final class TextBoundaries {
    private static final int NONE = PlaitBench.NONE;
    private static final int BIG = Integer.MAX_VALUE;
    private static final int SMALL = Integer.MIN_VALUE;
    private static final int BLANKS = 0x20202020;
    private static final int TERMS = Sentences.TERMS;

    /** 299 crossings in 15 bytes, 300 in 9 bytes. */
    private static final String ROW_OF_299 = "50(5(1+))49(1+)";
    private static final String ROW_OF_300 = "50(6(1+))";

    private TextBoundaries() {
    }

    static void run() {
        strawsAndNumbers();
        lengthsOfTexts();
        tokens();
        blanks();
        items();
        rows();
        firstFault();
        tokensThatCannotStand();
        textsThatEndTooSoon();
        numbersOfCrossings();
        numbersOfTimes();
        numbersOfCopies();
        depth();
        tooLongByCrossings();
        tooLongByCopies();
        tooLongByBrackets();
        copiesOfNone();
        leastAtOnePlace();
        promise2();
        promise3Text();
        promise3Replaces();
        promise3Fault();
        promise3Refuses();
        promise4();
    }

    /** Pattern 0 has 2 crossings, 1 has 1, 3 none, 5 has 300, all of 3 straws; 4 has 300 of 4 straws. */
    private static PlaitBench benchToCopyFrom() {
        PlaitBench x = new PlaitBench();
        Check.pattern(x, 0, 3, "1+2-");
        Check.pattern(x, 1, 3, "2-");
        Check.pattern(x, 3, 3, "");
        Check.pattern(x, 4, 4, ROW_OF_300);
        Check.pattern(x, 5, 3, ROW_OF_300);
        return x;
    }

    private static void faultIs(String text, int straws, int kind, int place) {
        PlaitBench x = benchToCopyFrom();
        String told = "'" + text + "' of " + straws + " straws";
        Check.same("pattern() of " + told, kind, Check.pattern(x, 6, straws, text));
        Check.same("fault(0) of " + told, kind, x.fault(0));
        Check.same("fault(1) of " + told, place, x.fault(1));
        Check.same("the size is NONE of " + told, kind == 0 ? 0 : 1, x.size(6) == NONE ? 1 : 0);
    }

    private static void sizeIs(String text, int size) {
        PlaitBench x = benchToCopyFrom();
        Check.same("pattern() of '" + text + "'", 0, Check.pattern(x, 6, 3, text));
        Check.same("size of '" + text + "'", size, x.size(6));
        Check.same("no place of '" + text + "'", NONE, x.fault(1));
    }

    private static void rowIs(String text, int straws, int... row) {
        PlaitBench x = benchToCopyFrom();
        Check.same("pattern() of '" + text + "'", 0, Check.pattern(x, 6, straws, text));
        Check.same("size of '" + text + "'", row.length, x.size(6));
        for (int j = 0; j < row.length && j < x.size(6); j++) {
            Check.same("crossing " + j + " of '" + text + "'", row[j], x.crossing(6, j));
        }
    }

    private static String times(String part, int times) {
        return part.repeat(times);
    }

    private static void strawsAndNumbers() {
        Sentences.quote(TERMS, "A PATTERN has STRAWS n (2 to 7) and a ROW of CROSSINGS, each a number i (1 to n - 1)"
                + " and a sign: the straws at the places i and i + 1 change places; with + the one that comes from i"
                + " lies over the other one, with - under it.");
        for (int n = 2; n <= 7; n++) {
            PlaitBench x = new PlaitBench();
            for (int i = 1; i < n; i++) {
                Check.same("fault of i+", 0, Check.pattern(x, 0, n, i + "+"));
                changesPlaces(x, n, i, 3, 2);
                Check.same("fault of i-", 0, Check.pattern(x, 0, n, i + "-"));
                changesPlaces(x, n, i, 2, 3);
            }
            Check.same("fault of 0+", 2, Check.pattern(x, 0, n, "0+"));
            Check.same("fault of n+", 2, Check.pattern(x, 0, n, n + "+"));
        }
        PlaitBench x = new PlaitBench();
        Check.illegal("1 straw", () -> x.pattern(0, 1, 0));
        Check.illegal("8 straws", () -> x.pattern(0, 8, 0));
    }

    private static void changesPlaces(PlaitBench x, int n, int i, int useOfI, int useOfNext) {
        for (int place = 1; place <= n; place++) {
            int due = place == i ? i + 1 : place == i + 1 ? i : place;
            Check.same("goes from " + place + " by " + i + " of " + n, due, x.goes(0, place));
            int use = place == i ? useOfI : place == i + 1 ? useOfNext : 2;
            Check.same("use of " + place + " by " + i + " of " + n, use, x.use(0, place));
        }
    }

    private static void lengthsOfTexts() {
        Sentences.quote(TERMS, "TEXTS, at most 800 bytes.");
        PlaitBench x = new PlaitBench();
        Check.same("800 bytes", 0, Check.pattern(x, 0, 3, times("1+", 299) + times(" ", 200) + "2-"));
        Check.same("its size", 300, x.size(0));
        Check.same("its last crossing", -2, x.crossing(0, 299));
        Check.same("no bytes", 0, Check.pattern(x, 0, 3, ""));
        Check.same("its size", 0, x.size(0));
        Check.same("the last of 800 bytes is no token", 1, Check.pattern(x, 0, 3, times(" ", 799) + "x"));
        Check.same("its place", 799, x.fault(1));
        Check.same("800 bytes end too soon", 1, Check.pattern(x, 0, 3, times(" ", 799) + "1"));
        Check.same("the text's length", 800, x.fault(1));
    }

    /** Which bytes can stand behind a beginning: those as told by the three texts, and no others. */
    private static void canStandBehind(String ahead, String ends, String goesOn) {
        int at = ahead.length();
        for (int sign = 0; sign < 256; sign++) {
            boolean isEnd = ends.indexOf(sign) >= 0;
            boolean isMore = goesOn.indexOf(sign) >= 0;
            faultIs(ahead + (char) sign, 3, isEnd ? 0 : 1, isEnd ? NONE : isMore ? at + 1 : at);
        }
    }

    private static void tokens() {
        Sentences.quote(TERMS, "TOKENS: NUMBERS (digits), signs + - ( ), letters p u m t;");
        canStandBehind("", " \n", "0123456789pumt");
        canStandBehind("1+", " \n", "0123456789pumt");
        canStandBehind("p0 ", " \n", "0123456789pumt");
        canStandBehind("2(1+)", " \n", "0123456789pumt");
        canStandBehind("1", "+-", "0123456789( \n");
        canStandBehind("1 ", "+-", "( \n");
        canStandBehind("u", "", "( \n");
        canStandBehind("m", "", "( \n");
        canStandBehind("t", "", "( \n");
        canStandBehind("2(", ")", "0123456789pumt \n");
        canStandBehind("u(1+", ")", "0123456789pumt \n");
        for (int sign = 0; sign < 256; sign++) {
            boolean isDigit = sign >= '0' && sign <= '9';
            boolean isBlank = sign == ' ' || sign == '\n';
            if (!isDigit) {
                faultIs("p" + (char) sign, 3, 1, isBlank ? 2 : 1);
            }
        }
    }

    private static void blanks() {
        Sentences.quote(TERMS, "blanks (32, 10) between them count for nothing.");
        rowIs("3(1+u(2-p1))p0", 3, 1, 2, 2, 1, 2, 2, 1, 2, 2, 1, -2);
        rowIs(" 3 ( 1 + u ( 2 - p 1 ) ) p 0 ", 3, 1, 2, 2, 1, 2, 2, 1, 2, 2, 1, -2);
        rowIs("\n3\n(\n1\n+\nu\n(\n2\n-\np\n1\n)\n)\np\n0\n", 3, 1, 2, 2, 1, 2, 2, 1, 2, 2, 1, -2);
        rowIs("  \n 1 \n\n  + \n ", 3, 1);
        rowIs("   ", 3);
        // A blank within digits makes two NUMBERS of them.
        faultIs("1 2+", 3, 1, 2);
        faultIs("0 1+", 3, 1, 2);
        faultIs("2 0(1+)", 3, 1, 2);
        faultIs("p0 0", 3, 1, 4);
        // Bytes that other languages skip are none here.
        faultIs("1+\t", 3, 1, 2);
        faultIs("1+\r\n", 3, 1, 2);
        faultIs("1+\f", 3, 1, 2);
        faultIs("1+" + (char) 160, 3, 1, 2);
        faultIs("1+" + (char) (32 + 128), 3, 1, 2);
        faultIs("1+" + (char) 0, 3, 1, 2);
    }

    private static void items() {
        Sentences.quote(TERMS, "In quotes is what stands there, * any number of times, | one of some: SEQ: ITEM*. ITEM:"
                + " NUMBER '+' | NUMBER '-' | 'p' NUMBER | NUMBER '(' SEQ ')' | 'u' '(' SEQ ')' | 'm' '(' SEQ ')' |"
                + " 't' '(' SEQ ')'. A text is a SEQ.");
        rowIs("", 3);
        rowIs("1()", 3);
        rowIs("u()", 3);
        rowIs("m()", 3);
        rowIs("t()", 3);
        rowIs("50(u(m(t())))u()", 3);
        rowIs("1+1-p0", 3, 1, -1, 1, -2);
        rowIs("u(1+1-p0)", 3, 2, -1, 1, -1);
        rowIs("1(1+)1(2+)u(1-)u(2-)m(1-)m(2-)t(2+)t(1+)", 3, 1, 2, 1, 2, 1, 2, 1, 2);
        rowIs("1(1(1+)1(2-))", 3, 1, -2);
        faultIs("1+,1+", 3, 1, 2);
        faultIs("(1+)", 3, 1, 0);
        faultIs("u1(1+)", 3, 1, 1);
        faultIs("2u(1+)", 3, 1, 1);
        faultIs("2p0", 3, 1, 1);
        faultIs("up0", 3, 1, 1);
        faultIs("+1", 3, 1, 0);
    }

    private static void rows() {
        Sentences.quote(TERMS, "Its ROW: of i+ and i- that CROSSING; of p k the ROW of PATTERN k; of N( ) that in it N"
                + " times; of u( ) that in it backwards, each with the other sign; of m( ) each with the other sign;"
                + " of t( ) n - i for each i.");
        rowIs("1+", 3, 1);
        rowIs("2-", 3, -2);
        rowIs("p3", 3);
        rowIs("p0p3p1", 3, 1, -2, -2);
        sizeIs("p5", 300);
        rowIs("1(1+2-)", 3, 1, -2);
        rowIs("2(1+2-)", 3, 1, -2, 1, -2);
        sizeIs("50(1+2-)", 100);
        rowIs("u(1+)", 3, -1);
        rowIs("u(1+2+)", 3, -2, -1);
        rowIs("u(1+2+1-)", 3, 1, -2, -1);
        rowIs("u(u(1+2+1-))", 3, 1, 2, -1);
        rowIs("m(1+2+1-)", 3, -1, -2, 1);
        rowIs("t(1+2-1-)", 3, 2, -1, -2);
        rowIs("t(1+1-)", 2, 1, -1);
        rowIs("t(1+6-3+4-)", 7, 6, -1, 4, -3);
        // Only what is in the brackets changes, not what is ahead of them or behind them.
        rowIs("1+2-u(1+)1+2-", 3, 1, -2, -1, 1, -2);
        rowIs("1+2-m(1+)1+2-", 3, 1, -2, -1, 1, -2);
        rowIs("1+2-t(1+)1+2-", 3, 1, -2, 2, 1, -2);
        rowIs("1+2-2(1+)1+2-", 3, 1, -2, 1, 1, 1, -2);
        rowIs("1+2-u()m()t()3()1+2-", 3, 1, -2, 1, -2);
        PlaitBench x = benchToCopyFrom();
        Check.pattern(x, 6, 3, "u(p5)");
        Check.same("a full row undone", 300, x.size(6));
        Check.same("its first", -1, x.crossing(6, 0));
        Check.same("its last", -1, x.crossing(6, 299));
    }

    private static void firstFault() {
        Sentences.quote(TERMS, "FAULTS, the first along the text:");
        faultIs("3+x", 3, 2, 0);
        faultIs("x3+", 3, 1, 0);
        faultIs("p2x", 3, 3, 1);
        faultIs("xp2", 3, 1, 0);
        faultIs("p2 3+", 3, 3, 1);
        faultIs("3+p2", 3, 2, 0);
        faultIs("p8p2", 3, 2, 1);
        faultIs("p2p8", 3, 3, 1);
        faultIs("51(", 3, 2, 0);
        faultIs("3(3+", 3, 2, 2);
        faultIs("43(7(1+)) x", 3, 2, 8);
        faultIs("x 43(7(1+))", 3, 1, 0);
    }

    private static void tokensThatCannotStand() {
        Sentences.quote(TERMS, "1 at a TOKEN's first byte: it can't stand there, or is none");
        faultIs("1+ 2- 12 345+", 3, 1, 9);
        faultIs("1+ 2- 2 00001", 3, 1, 8);
        faultIs("p0 +", 3, 1, 3);
        faultIs("1+ +", 3, 1, 3);
        faultIs("1+ -", 3, 1, 3);
        faultIs("1+ )", 3, 1, 3);
        faultIs("1+ (", 3, 1, 3);
        faultIs("u(1+) )", 3, 1, 6);
        faultIs("u )", 3, 1, 2);
        faultIs("u u(", 3, 1, 2);
        faultIs("u 1(", 3, 1, 2);
        faultIs("p p", 3, 1, 2);
        faultIs("p )", 3, 1, 2);
        faultIs("p (0)", 3, 1, 2);
        faultIs("p -1", 3, 1, 2);
        faultIs("99 )", 3, 1, 3);
        faultIs("99 u", 3, 1, 3);
        faultIs("1+ U(1+)", 3, 1, 3);
        faultIs("1+ *", 3, 1, 3);
        faultIs("1+ " + (char) 255, 3, 1, 3);
    }

    private static void textsThatEndTooSoon() {
        Sentences.quote(TERMS, "(the text's length where it ends too soon);");
        String[] texts = {"1", "99", "0", "p", "u", "m", "t", "2(", "u(", "m(", "t(", "2(1+", "u(p0", "2(u(1+)", "2(2(", "1+1"};
        for (String text : texts) {
            faultIs(text, 3, 1, text.length());
            faultIs(text + " ", 3, 1, text.length() + 1);
            faultIs(" " + text + "\n \n", 3, 1, text.length() + 4);
        }
        // It is the text's length, not the tape's.
        PlaitBench x = new PlaitBench();
        Check.feed(x, "1+1+1+1+1+1+1+1+1+1+");
        Check.same("the first 3 of 20 bytes", 1, x.pattern(0, 3, 3));
        Check.same("their length", 3, x.fault(1));
        Check.feed(x, "u(1+)");
        Check.same("the first 4 of 20 bytes", 1, x.pattern(0, 3, 4));
        Check.same("their length", 4, x.fault(1));
    }

    private static void numbersOfCrossings() {
        Sentences.quote(TERMS, "2 at a NUMBER's first byte, as soon as what it is for is known: of a CROSSING not 1 to n - 1,");
        for (int n = 2; n <= 7; n++) {
            for (String sign : new String[] {"+", "-", " +", "\n-"}) {
                faultIs("0" + sign, n, 2, 0);
                faultIs("1" + sign, n, 0, NONE);
                faultIs(n - 1 + sign, n, 0, NONE);
                faultIs(n + sign, n, 2, 0);
                faultIs("1+ " + 1 + n + sign, n, 2, 3);
            }
        }
        faultIs("2147483648+", 3, 2, 0);
        faultIs("2147483649+", 3, 2, 0);
        faultIs("4294967297+", 3, 2, 0);
        faultIs("9223372036854775809-", 3, 2, 0);
        faultIs("18446744073709551617-", 3, 2, 0);
        faultIs("1" + times("0", 700) + "1+", 3, 2, 0);
        faultIs("1" + times("0", 797) + "1-", 3, 2, 0);
        // Before it is known, a NUMBER has no fault of its own.
        faultIs("9", 3, 1, 1);
        faultIs("9x+", 3, 1, 1);
        faultIs("9 9+", 3, 1, 2);
    }

    private static void numbersOfTimes() {
        Sentences.quote(TERMS, "of times not 1 to 50 (both by their value, 0s ahead count for nothing);");
        faultIs("0(1+)", 3, 2, 0);
        faultIs("1(1+)", 3, 0, NONE);
        faultIs("50(1+)", 3, 0, NONE);
        faultIs("51(1+)", 3, 2, 0);
        faultIs("1+ 51 (1+)", 3, 2, 3);
        faultIs("0()", 3, 2, 0);
        faultIs("51()", 3, 2, 0);
        faultIs("000(1+)", 3, 2, 0);
        faultIs("00050(1+)", 3, 0, NONE);
        faultIs("00051(1+)", 3, 2, 0);
        faultIs("100(1+)", 3, 2, 0);
        faultIs("1001(1+)", 3, 2, 0);
        faultIs("4294967297(1+)", 3, 2, 0);
        faultIs("18446744073709551617(1+)", 3, 2, 0);
        sizeIs(times("0", 700) + "50(1+)", 50);
        sizeIs(times("0", 797) + "2+", 1);
        rowIs("002(001+0002-)", 3, 1, -2, 1, -2);
        faultIs("000+", 3, 2, 0);
        faultIs("0003+", 3, 2, 0);
    }

    private static void numbersOfCopies() {
        Sentences.quote(TERMS, "of p not 0 to 7, or of three digits or more;");
        faultIs("p0", 3, 0, NONE);
        faultIs("p00", 3, 0, NONE);
        faultIs("p05", 3, 0, NONE);
        faultIs("p000", 3, 2, 1);
        faultIs("p005", 3, 2, 1);
        faultIs("p7", 3, 3, 1);
        faultIs("p07", 3, 3, 1);
        faultIs("p007", 3, 2, 1);
        faultIs("p8", 3, 2, 1);
        faultIs("p08", 3, 2, 1);
        faultIs("p 9", 3, 2, 2);
        faultIs("p\n10", 3, 2, 2);
        faultIs("p99", 3, 2, 1);
        faultIs("p100", 3, 2, 1);
        faultIs("p4294967296", 3, 2, 1);
        faultIs("p18446744073709551616", 3, 2, 1);
        faultIs("p" + times("0", 799), 3, 2, 1);
        faultIs("1+u(p8", 3, 2, 5);
        // The NUMBER's end is not waited for by anything else.
        faultIs("p8x", 3, 2, 1);
        faultIs("p8+", 3, 2, 1);
        faultIs("p000 x", 3, 2, 1);
    }

    private static void depth() {
        Sentences.quote(TERMS, "at a ( that is within 8 others;");
        for (String opening : new String[] {"1(", "u(", "m(", "t("}) {
            faultIs(times(opening, 8) + "1+" + times(")", 8), 3, 0, NONE);
            faultIs(times(opening, 8) + times(")", 8), 3, 0, NONE);
            faultIs(times(opening, 9) + "1+" + times(")", 9), 3, 2, 17);
            faultIs(times(opening, 9), 3, 2, 17);
            faultIs(times(opening, 8), 3, 1, 16);
        }
        faultIs("1(u(m(t(2(u(m(t( 1 ( ", 3, 2, 19);
        faultIs("1(u(m(t(2(u(m(t( u ( ", 3, 2, 19);
        // Brackets that are closed again are not around it.
        faultIs(times("1()", 9), 3, 0, NONE);
        faultIs(times("1(", 8) + times(")", 8) + times("u(", 8) + times(")", 8), 3, 0, NONE);
        faultIs(times("1(", 7) + times("u()", 9) + times(")", 7), 3, 0, NONE);
        faultIs(times("1(", 8) + ")1())1(1(", 3, 1, 25);
        faultIs(times("1(", 8) + ")1())1(1(1(", 3, 2, 26);
    }

    private static void tooLongByCrossings() {
        Sentences.quote(TERMS, "at the + or -, the NUMBER of p, the ) by which the ROW would have more than 300;");
        sizeIs(ROW_OF_299, 299);
        sizeIs(ROW_OF_300, 300);
        sizeIs(ROW_OF_299 + "2+", 300);
        sizeIs(ROW_OF_299 + "2-", 300);
        sizeIs(times("1+", 300), 300);
        faultIs(times("1+", 301), 3, 2, 601);
        faultIs(times("1-", 301), 3, 2, 601);
        faultIs(ROW_OF_300 + "2+", 3, 2, 10);
        faultIs(ROW_OF_300 + "2-", 3, 2, 10);
        faultIs(ROW_OF_300 + "2 \n-", 3, 2, 12);
        faultIs(ROW_OF_299 + "2+1-", 3, 2, 18);
        // A NUMBER that is wrong itself is ahead of its sign.
        faultIs(ROW_OF_300 + "3+", 3, 2, 9);
        // Within a bracket the row has what is ahead of it as well.
        sizeIs(ROW_OF_299 + "1(2+)", 300);
        sizeIs(ROW_OF_299 + "u(m(2+))", 300);
        faultIs(ROW_OF_300 + "1(2+)", 3, 2, 12);
        faultIs(ROW_OF_300 + "u(m(2+))", 3, 2, 14);
        // A row that is full goes on with what adds none to it.
        sizeIs(ROW_OF_300 + "50()u()m(50())t() ", 300);
        faultIs(ROW_OF_300 + "x", 3, 1, 9);
        faultIs(ROW_OF_300 + "1", 3, 1, 10);
    }

    private static void tooLongByCopies() {
        sizeIs("p5", 300);
        sizeIs("p5p3", 300);
        sizeIs("p3p5", 300);
        sizeIs(ROW_OF_299 + "p1", 300);
        sizeIs("u(p5)", 300);
        faultIs(ROW_OF_300 + "p1", 3, 2, 10);
        faultIs(ROW_OF_299 + "p0", 3, 2, 16);
        faultIs("1+p5", 3, 2, 3);
        faultIs("p5 p 05", 3, 2, 5);
        faultIs("p5p1", 3, 2, 3);
        faultIs("2+u(p5)", 3, 2, 5);
    }

    private static void tooLongByBrackets() {
        sizeIs("50(6(1+))", 300);
        faultIs("43(7(1+))", 3, 2, 8);
        faultIs("43(7(1+) \n)", 3, 2, 10);
        sizeIs(ROW_OF_299 + "1(2+)", 300);
        faultIs(ROW_OF_299 + "2(2+)", 3, 2, 19);
        sizeIs("2(50(3(1+)))", 300);
        faultIs("2(50(3(1+))1+)", 3, 2, 13);
        sizeIs("1(p5)", 300);
        faultIs("2(p5)", 3, 2, 4);
        faultIs("50(p5)", 3, 2, 5);
        sizeIs("1(1(1(1(1(1(1(1(p5))))))))", 300);
        faultIs(times("50(", 8) + "1+" + times(")", 8), 3, 2, 27);
        sizeIs(times("50(", 8) + times(")", 8), 0);
        // u( ), m( ) and t( ) never make a row longer.
        sizeIs("u(m(t(p5)))", 300);
        sizeIs(ROW_OF_299 + "t(1+)", 300);
    }

    private static void copiesOfNone() {
        Sentences.quote(TERMS, "3 at the NUMBER of p: there is no such PATTERN, or it is of other STRAWS.");
        faultIs("p2", 3, 3, 1);
        faultIs("p6", 3, 3, 1);
        faultIs("p7", 3, 3, 1);
        faultIs("1+ p \n 02", 3, 3, 7);
        faultIs("p4", 4, 0, NONE);
        faultIs("p4", 3, 3, 1);
        faultIs("p4", 5, 3, 1);
        faultIs("p0", 2, 3, 1);
        faultIs("p0", 4, 3, 1);
        // One without CROSSINGS has its STRAWS too.
        faultIs("p3", 3, 0, NONE);
        faultIs("p3", 4, 3, 1);
        PlaitBench x = new PlaitBench();
        Check.same("none of itself at first", 3, Check.pattern(x, 0, 3, "1+p0"));
        Check.same("it did not come", NONE, x.size(0));
        Check.same("the first", 0, Check.pattern(x, 0, 3, "1+"));
        Check.same("of itself", 0, Check.pattern(x, 0, 3, "2+p0p0"));
        Check.same("twice and one", 3, x.size(0));
        Check.same("of itself with other straws", 3, Check.pattern(x, 0, 4, "p0"));
        Check.same("it stays", 3, x.about(0, 0));
    }

    private static void leastAtOnePlace() {
        Sentences.quote(TERMS, "(At one place the least.)");
        // There is no PATTERN 8 either.
        faultIs("p8", 3, 2, 1);
        faultIs("p002", 3, 2, 1);
        // Of other STRAWS, and too long.
        faultIs("1+p4", 3, 2, 3);
        faultIs(ROW_OF_300 + "p4", 3, 2, 10);
        faultIs(ROW_OF_300 + "p2", 3, 3, 10);
        // A ( that can't stand there, within 8 others.
        faultIs(times("1(", 8) + "(", 3, 1, 16);
        faultIs(times("u(", 8) + "1+(", 3, 1, 18);
        // A + or a ) that can't stand there, behind a row that is full.
        faultIs(ROW_OF_300 + "+", 3, 1, 9);
        faultIs(ROW_OF_300 + ")", 3, 1, 9);
    }

    private static void promise2() {
        Sentences.quote(2, "Twenty bytes come behind the tape, of each number the highest first: how many it has;");
        PlaitBench x = new PlaitBench();
        Check.same("the first twenty", 20, x.feed(0x312b322d, 0x332b342d, 0x352b362d, 0x312d322b, 0x332d342b));
        Check.same("behind them", 40, x.feed(0x362d352b, BLANKS, BLANKS, BLANKS, 0x2020342b));
        Check.same("all of them", 0, x.pattern(0, 7, 40));
        int[] row = {1, -2, 3, -4, 5, -6, -1, 2, -3, 4, -6, 5, 4};
        Check.same("how many", row.length, x.size(0));
        for (int j = 0; j < row.length; j++) {
            Check.same("crossing " + j, row[j], x.crossing(0, j));
        }
        Check.same("after a pattern the tape begins anew", 20, x.feed(-1, SMALL, BIG, 0, -1));
        Check.same("a number below 0 has a first byte too", 1, x.pattern(0, 7, 20));
        Check.same("its place", 0, x.fault(1));
        x.feed(0x312b20ff, BLANKS, BLANKS, BLANKS, BLANKS);
        Check.same("its last byte", 1, x.pattern(0, 7, 20));
        Check.same("its place", 3, x.fault(1));
        Sentences.quote(2, "NONE, and none come, if it would have more than 800.");
        PlaitBench y = new PlaitBench();
        for (int fed = 20; fed <= 780; fed += 20) {
            Check.same("not yet full", fed, y.feed(BLANKS, BLANKS, BLANKS, BLANKS, BLANKS));
        }
        Check.same("just full", 800, y.feed(0x312b312b, 0x312b312b, 0x312b312b, 0x312b312b, 0x312b312b));
        Check.same("one more", NONE, y.feed(0x322d322d, 0x322d322d, 0x322d322d, 0x322d322d, 0x322d322d));
        Check.same("and again", NONE, y.feed(0, 0, 0, 0, 0));
        Check.same("none came", 800, y.count(3));
        Check.illegal("there are no 801", () -> y.pattern(0, 3, 801));
        Check.same("the tape is as it was", 0, y.pattern(0, 3, 800));
        Check.same("its crossings", 10, y.size(0));
        Check.same("the last", 1, y.crossing(0, 9));
        Check.same("it is empty, so they come", 20, y.feed(0, 0, 0, 0, 0));
    }

    private static void promise3Text() {
        Sentences.quote(3, "The tape's first n bytes (it is empty then) are PATTERN k (0 to 7),");
        PlaitBench x = new PlaitBench();
        for (int n = 0; n <= 20; n += 2) {
            Check.feed(x, "1+1+1+1+1+1+1+1+1+1+");
            Check.same("the first " + n, 0, x.pattern(n % 8, 2, n));
            Check.same("their crossings", n / 2, x.size(n % 8));
            Check.same("the tape is empty", 0, x.count(3));
        }
        Check.same("none of an empty tape", 0, x.pattern(0, 2, 0));
        Check.same("no crossings", 0, x.size(0));
        Check.illegal("one of an empty tape", () -> x.pattern(0, 2, 1));
        Check.feed(x, "1+");
        Check.same("none of 20 bytes", 0, x.pattern(7, 7, 0));
        Check.same("no crossings", 0, x.size(7));
        Check.same("the rest is gone", 0, x.count(3));
    }

    private static void promise3Replaces() {
        Sentences.quote(3, "in place of what it was, of so many STRAWS: 0,");
        PlaitBench x = new PlaitBench();
        for (int k = 0; k < 8; k++) {
            Check.same("pattern " + k, 0, Check.pattern(x, k, 2 + k % 6, "1+"));
        }
        Check.same("a longer one", 0, Check.pattern(x, 3, 7, "50(1+2+3+4+5+6-)"));
        Check.same("its size", 300, x.size(3));
        Check.same("its straws", 7, x.about(3, 0));
        Check.same("its form", 1, x.about(3, 6) > 0 ? 1 : 0);
        Check.same("not untwined", NONE, x.untwined(3));
        Check.same("a shorter one", 0, Check.pattern(x, 3, 2, "1-"));
        Check.same("its size", 1, x.size(3));
        Check.same("its straws", 2, x.about(3, 0));
        Check.same("its home", 2, x.about(3, 1));
        Check.same("its rings", 1, x.about(3, 2));
        Check.same("it holds", 1, x.about(3, 3));
        Check.same("its levels", 1, x.about(3, 4));
        Check.same("its power", -1, x.about(3, 5));
        Check.same("its factors", 0, x.about(3, 6));
        Check.same("untwined", 2, x.untwined(3));
        Check.same("use", 2, x.use(3, 1));
        Check.same("twine", -2, x.twine(3, 1, 2));
        Check.none("no place 3", () -> x.goes(3, 3));
        Check.none("no crossing 1", () -> x.crossing(3, 1));
        Check.same("one of none", 0, Check.pattern(x, 3, 2, ""));
        Check.same("it does not hold", 0, x.about(3, 3));
        Check.same("its power is 0", 0, x.about(3, 5));
        Check.same("untwined at once", 1, x.untwined(3));
        for (int k = 0; k < 8; k++) {
            Check.same("the others stay", k == 3 ? 0 : 1, x.size(k));
            Check.same("so do their straws", k == 3 ? 2 : 2 + k % 6, x.about(k, 0));
        }
    }

    private static void promise3Fault() {
        Sentences.quote(3, "or the FAULT (nothing changes then).");
        String[] texts = {"1+2+x", "1+2+3+", "1+2+p6", "p0 p8", "2(p0"};
        int[] faults = {1, 2, 3, 2, 1};
        for (int j = 0; j < texts.length; j++) {
            PlaitBench x = new PlaitBench();
            Check.pattern(x, 0, 3, "2-1+2-");
            Check.same("'" + texts[j] + "'", faults[j], Check.pattern(x, 0, 3, texts[j]));
            Check.same("the size stays", 3, x.size(0));
            Check.same("the straws stay", 3, x.about(0, 0));
            Check.same("the row stays", -2, x.crossing(0, 2));
            Check.same("the form stays", -2, x.about(0, 5));
            Check.same("the tape is empty all the same", 0, x.count(3));
        }
        PlaitBench y = new PlaitBench();
        Check.same("a fault where there was none", 1, Check.pattern(y, 0, 3, "1+2+x"));
        Check.same("there is still none", NONE, y.size(0));
        Check.none("nothing about it", () -> y.about(0, 0));
    }

    private static void promise3Refuses() {
        Sentences.quote(3, "IllegalArgumentException: no such number, STRAWS, the tape has not so many, n below 0 (the tape"
                + " stays).");
        PlaitBench x = new PlaitBench();
        Check.feed(x, "1+2-");
        for (int k : new int[] {-1, 8, 9, BIG, SMALL}) {
            Check.illegal("number " + k, () -> x.pattern(k, 3, 4));
        }
        for (int straws : new int[] {1, 8, 0, -1, -3, BIG, SMALL}) {
            Check.illegal("straws " + straws, () -> x.pattern(0, straws, 4));
        }
        for (int n : new int[] {21, 22, 800, 801, BIG, -1, -2, -20, SMALL}) {
            Check.illegal("bytes " + n, () -> x.pattern(0, 3, n));
        }
        Check.illegal("all of them", () -> x.pattern(SMALL, BIG, SMALL));
        Check.same("the tape stays", 20, x.count(3));
        Check.same("no pattern came", NONE, x.size(0));
        Check.same("all 20 bytes are there", 0, x.pattern(7, 3, 20));
        Check.same("the row", -2, x.crossing(7, 1));
        Check.illegal("the tape is empty", () -> x.pattern(7, 3, 1));
        Check.same("the pattern stays", 2, x.size(7));
    }

    private static void promise4() {
        Sentences.quote(4, "Of the latest pattern(): 0 its FAULT, 1 the place (NONE without).");
        PlaitBench x = new PlaitBench();
        Check.same("before any", 0, x.fault(0));
        Check.same("no place before any", NONE, x.fault(1));
        Check.pattern(x, 0, 3, "1+");
        Check.same("without", 0, x.fault(0));
        Check.same("no place without", NONE, x.fault(1));
        Check.pattern(x, 0, 3, "1+3+");
        Check.same("a fault", 2, x.fault(0));
        Check.same("its place", 2, x.fault(1));
        Check.pattern(x, 1, 3, "p5");
        Check.same("a later one", 3, x.fault(0));
        Check.same("its place", 1, x.fault(1));
        Check.pattern(x, 1, 3, ")");
        Check.same("one at the first byte", 1, x.fault(0));
        Check.same("place 0 is a place", 0, x.fault(1));
        Check.same("asked again", 0, x.fault(1));
        Check.feed(x, "1+");
        Check.same("feed() is no pattern()", 1, x.fault(0));
        Check.pattern(x, 1, 3, "");
        Check.same("again without", 0, x.fault(0));
        Check.same("again no place", NONE, x.fault(1));
        Sentences.quote(4, "NoSuchElementException: another what.");
        for (int what : new int[] {-1, 2, 3, BIG, SMALL}) {
            Check.none("fault(" + what + ")", () -> x.fault(what));
            Check.none("fault(" + what + ") of a new object", () -> new PlaitBench().fault(what));
        }
    }
}
