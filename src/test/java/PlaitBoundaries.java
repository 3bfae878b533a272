/** The boundaries of what is told of patterns: parts 2 and 3 of the terms, promises 5 to 13. */
final class PlaitBoundaries {
    private static final int NONE = PlaitBench.NONE;
    private static final int BIG = Integer.MAX_VALUE;
    private static final int SMALL = Integer.MIN_VALUE;
    private static final int TERMS = Sentences.TERMS;

    /** Numbers of patterns that never are. */
    private static final int[] NO_PATTERNS = {-1, 8, 9, BIG, SMALL};

    private PlaitBoundaries() {
    }

    static void run() {
        steps();
        simpleRows();
        permutations();
        wholeRows();
        forms();
        oneForm();
        home();
        rings();
        holdsByNumbers();
        holdsInTurn();
        twine();
        levels();
        use();
        promise5();
        promise6();
        promise7();
        promise8();
        promise9();
        promise10();
        promise10Most();
        promise11();
        promise12();
        promise13();
    }

    private static PlaitBench made(int straws, String text) {
        PlaitBench x = new PlaitBench();
        Check.same("the fault of '" + text + "'", 0, Check.pattern(x, 0, straws, text));
        return x;
    }

    private static void alikeIs(boolean due, int straws, String one, String other) {
        PlaitBench x = made(straws, one);
        Check.pattern(x, 1, straws, other);
        String told = "'" + one + "' and '" + other + "' of " + straws;
        Check.same(told, due ? 1 : 0, x.alike(0, 1) ? 1 : 0);
        Check.same(told + " the other way", due ? 1 : 0, x.alike(1, 0) ? 1 : 0);
    }

    private static void formIs(int straws, String text, int power, int... factors) {
        PlaitBench x = made(straws, text);
        String told = " of '" + text + "' of " + straws;
        Check.same("POWER" + told, power, x.about(0, 5));
        Check.same("FACTORS" + told, factors.length, x.about(0, 6));
        for (int j = 0; j < factors.length && j < x.about(0, 6); j++) {
            Check.same("factor " + j + told, factors[j], x.factor(0, j));
        }
        Check.none("no factor behind the last" + told, () -> x.factor(0, factors.length));
    }

    /** The places as digits, that of place 1 first. */
    private static int permutation(String places) {
        int code = 0;
        for (int place = 0; place < places.length(); place++) {
            code |= places.charAt(place) - '0' << 3 * place;
        }
        return code;
    }

    /** A row in which any two of the straws cross once. */
    private static String whole(int straws) {
        StringBuilder row = new StringBuilder();
        for (int last = straws - 1; last >= 1; last--) {
            for (int i = 1; i <= last; i++) {
                row.append(i).append('+');
            }
        }
        return row.toString();
    }

    private static void steps() {
        Sentences.quote(TERMS, "TWO ROWS of like STRAWS are ALIKE, if one becomes the other by steps: i+ and i- (or i- and i+)"
                + " side by side come or go; two CROSSINGS side by side whose numbers are 2 or more apart change"
                + " places; i+ j+ i+ becomes j+ i+ j+, where i and j are 1 apart.");
        for (int n = 2; n <= 7; n++) {
            alikeIs(true, n, "", "");
            alikeIs(true, n, "1+1-", "");
            alikeIs(true, n, n - 1 + "-" + (n - 1) + "+", "");
            alikeIs(true, n, "1+" + (n - 1) + "-" + (n - 1) + "+1-", "");
            alikeIs(false, n, "1+1+", "");
            alikeIs(false, n, "1-1-", "");
            alikeIs(false, n, "1+", "1-");
            alikeIs(false, n, "1+", "");
        }
        for (String one : new String[] {"1+", "1-"}) {
            for (String other : new String[] {"3+", "3-"}) {
                alikeIs(true, 4, one + other, other + one);
                alikeIs(true, 7, one + other.replace('3', '6'), other.replace('3', '6') + one);
                alikeIs(false, 4, one + other.replace('3', '2'), other.replace('3', '2') + one);
            }
        }
        alikeIs(true, 3, "1+2+1+", "2+1+2+");
        alikeIs(true, 7, "5+6+5+", "6+5+6+");
        alikeIs(true, 3, "1-2-1-", "2-1-2-");
        alikeIs(true, 3, "1+2+1-", "2-1+2+");
        alikeIs(false, 4, "1+3+1+", "3+1+3+");
        alikeIs(false, 3, "1+2-1+", "2-1+2-");
        alikeIs(false, 3, "1+2-1+", "2+1-2+");
        alikeIs(false, 3, "1+2+", "2+1+");
    }

    private static void simpleRows() {
        Sentences.quote(TERMS, "A SIMPLE ROW has + alone, and no two straws cross twice in it.");
        formIs(4, "1+", 0, permutation("2134"));
        formIs(4, "1+2+", 0, permutation("3124"));
        formIs(4, "1+2+1+", 0, permutation("3214"));
        formIs(4, "1+1+", 0, permutation("2134"), permutation("2134"));
        formIs(4, "1+2+2+", 0, permutation("3124"), permutation("1324"));
        formIs(4, "1+2+1+2+", 0, permutation("3214"), permutation("1324"));
        // With - it is none: D undone comes ahead of it.
        formIs(4, "1-", -1, permutation("4312"));
        formIs(4, "3-", -1, permutation("3421"));
        formIs(4, "1+3-", -1, permutation("3421"), permutation("2134"));
    }

    private static void permutations() {
        Sentences.quote(TERMS, "It is told by its PERMUTATION: for each place 1 to n from which a straw comes, the place to"
                + " which it goes; each by 3 bits, that of place 1 lowest. (Rows of one PERMUTATION are ALIKE.)");
        Check.same("by hand", 2 + 3 * 8 + 64, permutation("231"));
        formIs(3, "2+1+", 0, 2 + 3 * 8 + 64);
        formIs(3, "1+2+", 0, 3 + 8 + 2 * 64);
        formIs(3, "1+", 0, 2 + 8 + 3 * 64);
        formIs(3, "2+", 0, 1 + 3 * 8 + 2 * 64);
        formIs(7, "1+", 0, permutation("2134567"));
        formIs(7, "6+", 0, permutation("1234576"));
        formIs(7, "1+2+3+4+5+6+", 0, permutation("7123456"));
        formIs(7, "6+5+4+3+2+1+", 0, permutation("2345671"));
        alikeIs(true, 7, "1+2+3+1+2+1+", "3+2+3+1+2+3+");
        alikeIs(true, 5, whole(5), "4+3+2+1+4+3+2+4+3+4+");
    }

    private static void wholeRows() {
        Sentences.quote(TERMS, "D is the SIMPLE ROW in which any two cross.");
        for (int n = 2; n <= 7; n++) {
            String d = whole(n);
            formIs(n, d, 1);
            formIs(n, "u(" + d + ")", -1);
            formIs(n, "m(" + d + ")", -1);
            formIs(n, "t(" + d + ")", 1);
            PlaitBench x = made(n, d + "1-");
            Check.same("one crossing less, POWER", 0, x.about(0, 5));
            Check.same("one crossing less, FACTORS", n == 2 ? 0 : 1, x.about(0, 6));
            PlaitBench y = made(n, d + "1+");
            Check.same("one crossing more, POWER", n == 2 ? 2 : 1, y.about(0, 5));
            Check.same("one crossing more, FACTORS", n == 2 ? 0 : 1, y.about(0, 6));
        }
    }

    private static void forms() {
        Sentences.quote(TERMS, "FORM of a ROW: a number POWER and FACTORS, SIMPLE ROWS f1, f2, .. fk, none of which is D or"
                + " without CROSSINGS, such that the row is ALIKE D, POWER times (undone, if it is below 0), then f1,"
                + " f2, ..; and each FACTOR has of what lies behind it all that it can: there is no i such that the"
                + " next one is ALIKE a ROW that begins with i+, and this one with i+ behind it is SIMPLE.");
        for (int n = 2; n <= 7; n++) {
            formIs(n, "", 0);
            formIs(n, "1+1-", 0);
            formIs(n, "3(" + whole(n) + ")", 3);
            formIs(n, "u(3(" + whole(n) + "))", -3);
        }
        // As often as a full row can: D of 2 straws has 1 crossing, of 3 straws 3, of 7 straws 21.
        formIs(2, "50(6(1+))", 300);
        formIs(2, "50(6(1-))", -300);
        formIs(3, "50(2(1+2+1+))", 100);
        formIs(7, "14(" + whole(7) + ")", 14);
        formIs(7, "u(14(" + whole(7) + "))", -14);
        for (int n = 3; n <= 7; n++) {
            PlaitBench x = made(n, "50(6(1+))");
            Check.same("POWER of a full row", 0, x.about(0, 5));
            Check.same("FACTORS of a full row", 300, x.about(0, 6));
            PlaitBench y = made(n, "50(6(1-))");
            Check.same("POWER of a full row of -", -300, y.about(0, 5));
            Check.same("FACTORS of a full row of -", 300, y.about(0, 6));
        }
        // All that it can: 1+ takes 2+ and 3+ of what lies behind, but not 1+ again.
        formIs(4, "1+3+2+", 0, permutation("3142"));
        formIs(4, "1+ 1+2+3+", 0, permutation("2134"), permutation("4123"));
        formIs(4, "1+ 3+1+2+", 0, permutation("2143"), permutation("3124"));
        formIs(3, "1+ 2+1+ 1+", 1, permutation("213"));
        formIs(3, "1+ 1+2+1+", 1, permutation("132"));
    }

    private static void oneForm() {
        Sentences.quote(TERMS, "(Each ROW has just one FORM; two are ALIKE just if they have the same.)");
        String[] alike = {"1+2+1+3-", "2+1+2+3-", "2+1+2+2-2+3-", "1+2+3-3+1+3-", "2+1+3+3-2+3-"};
        PlaitBench x = made(4, alike[0]);
        for (String other : alike) {
            Check.pattern(x, 1, 4, other);
            Check.same("POWER of " + other, x.about(0, 5), x.about(1, 5));
            Check.same("FACTORS of " + other, x.about(0, 6), x.about(1, 6));
            for (int j = 0; j < x.about(0, 6); j++) {
                Check.same("factor " + j + " of " + other, x.factor(0, j), x.factor(1, j));
            }
            Check.holds("alike " + other, x.alike(0, 1));
        }
        // The same POWER and other FACTORS; the same FACTORS and another POWER; more FACTORS.
        alikeIs(false, 4, "1+", "2+");
        alikeIs(false, 4, "1+", whole(4) + "1+");
        alikeIs(false, 4, "1+1+", "1+");
        alikeIs(false, 4, "1+1+2+", "1+1+3+2+");
    }

    private static void home() {
        Sentences.quote(TERMS, "Of a PATTERN: HOME: how many times it must be made until each straw is at its place again.");
        homeAndRings(2, "", 1, 2);
        homeAndRings(7, "", 1, 7);
        homeAndRings(2, "1+", 2, 1);
        homeAndRings(2, "1+1+", 1, 2);
        homeAndRings(7, "1+2+3+ 5+6+", 12, 2);
        homeAndRings(7, "1+ 3+4+5+6+", 10, 2);
        homeAndRings(7, "1+2+3+4+5+6+", 7, 1);
        homeAndRings(7, "1+2+3+4+5+", 6, 2);
        homeAndRings(7, "1+2+ 4+5+", 3, 3);
        homeAndRings(7, "1+ 3+ 5+", 2, 4);
        homeAndRings(7, "1+ 3+ 5+6+", 6, 3);
        homeAndRings(7, "1+ 3+4+5+", 4, 3);
        homeAndRings(5, "50(6(1+))", 1, 5);
    }

    private static void homeAndRings(int straws, String text, int home, int rings) {
        PlaitBench x = made(straws, text);
        Check.same("HOME of '" + text + "' of " + straws, home, x.about(0, 1));
        Check.same("RINGS of '" + text + "' of " + straws, rings, x.about(0, 2));
    }

    private static void rings() {
        Sentences.quote(TERMS, "RINGS: how many rows of straws there are, each coming to the place of the next one when it is"
                + " made once.");
        for (int n = 2; n <= 7; n++) {
            StringBuilder row = new StringBuilder();
            for (int i = 1; i < n; i++) {
                homeAndRings(n, row.toString(), i, n - i + 1);
                row.append(i).append(i % 2 == 0 ? '+' : '-');
            }
            homeAndRings(n, row.toString(), n, 1);
        }
    }

    private static void holdsIs(int due, int straws, String text) {
        Check.same("HOLDS of '" + text + "' of " + straws, due, made(straws, text).about(0, 3));
    }

    private static void holdsByNumbers() {
        Sentences.quote(TERMS, "It HOLDS, if each of 1 to n - 1 is the number of some CROSSING,");
        holdsIs(0, 2, "");
        holdsIs(0, 7, "");
        for (int n = 2; n <= 7; n++) {
            holdsIs(1, n, inTurn(n, 0));
            for (int missing = 1; missing < n; missing++) {
                holdsIs(0, n, inTurn(n, missing));
            }
        }
        holdsIs(0, 3, "1+1+");
        holdsIs(0, 4, "1+1+3+3+");
    }

    /** 1+2-3+4- and so on, without the missing one. */
    private static String inTurn(int straws, int missing) {
        StringBuilder row = new StringBuilder();
        for (int i = 1; i < straws; i++) {
            if (i != missing) {
                row.append(i).append(i % 2 == 1 ? '+' : '-');
            }
        }
        return row.toString();
    }

    private static void holdsInTurn() {
        Sentences.quote(TERMS, "and each straw, as the PATTERN is made HOME times and then from the beginning again, lies over,"
                + " under, over .. in turn at all CROSSINGS in which it is.");
        holdsIs(1, 2, "1+");
        holdsIs(1, 2, "1-");
        holdsIs(1, 2, "1+1+");
        holdsIs(0, 2, "1+1-");
        holdsIs(0, 2, "1+1+1-");
        holdsIs(1, 2, "50(6(1+))");
        holdsIs(0, 2, "50(5(1+))49(1+)1-");
        holdsIs(0, 2, "1-50(5(1+))49(1+)");
        // Out of turn in the middle alone: what is last and what comes next are in turn.
        holdsIs(0, 2, "1+1-1+");
        holdsIs(0, 2, "50(2(1+))1-50(2(1+))");
        holdsIs(0, 3, "1+2-1-1-1+2-");
        holdsIs(0, 3, "1+2-2+2-");
        // The straw that crosses twice lies on one side both times.
        holdsIs(0, 3, "1+2+");
        holdsIs(0, 3, "2-1-");
        holdsIs(1, 3, "1+2-");
        holdsIs(1, 3, "2-1+");
        holdsIs(1, 3, "m(1+2-)");
        for (int n = 3; n <= 7; n++) {
            for (int other = 1; other < n; other++) {
                holdsIs(0, n, inTurn(n, 0).replace(other + "+", other + "*").replace(other + "-", other + "+")
                        .replace(other + "*", other + "-"));
            }
        }
    }

    private static void twine() {
        Sentences.quote(TERMS, "TWINE of two straws (by their places at the beginning): made HOME times, CROSSINGS of both with"
                + " + less those with -.");
        PlaitBench x = made(2, "1+");
        Check.same("HOME is 2", 2, x.twine(0, 1, 2));
        Check.same("of the empty row", 0, made(2, "").twine(0, 1, 2));
        Check.same("with -", -2, made(2, "1-").twine(0, 1, 2));
        Check.same("one with + and one with -", 0, made(2, "1+1-").twine(0, 1, 2));
        Check.same("a full row", 300, made(2, "50(6(1+))").twine(0, 1, 2));
        Check.same("a full row of -", -300, made(2, "50(6(1-))").twine(0, 1, 2));
        Check.same("299, twice", 598, made(2, "50(5(1+))49(1+)").twine(0, 1, 2));
        PlaitBench y = made(7, "1+2+3+ 5+6+");
        Check.same("HOME is 12, in one ring", 6, y.twine(0, 1, 2));
        Check.same("two apart in the ring", 6, y.twine(0, 1, 3));
        Check.same("in the other ring", 8, y.twine(0, 5, 7));
        Check.same("of two rings", 0, y.twine(0, 4, 5));
        PlaitBench z = made(3, "1+ 2-2-");
        Check.same("by the places at the beginning, 1 and 2", 2, z.twine(0, 1, 2));
        Check.same("1 and 3", -2, z.twine(0, 1, 3));
        Check.same("2 and 3", -2, z.twine(0, 2, 3));
    }

    private static void levelsAre(int due, int straws, String text) {
        Check.same("LEVELS of '" + text + "' of " + straws, due, made(straws, text).about(0, 4));
    }

    private static void levels() {
        Sentences.quote(TERMS, "LEVELS: each CROSSING lies at the first level behind those of all ahead of it whose number is"
                + " less than 2 apart from its own; how many levels.");
        levelsAre(0, 2, "");
        levelsAre(0, 7, "");
        levelsAre(1, 2, "1+");
        levelsAre(2, 2, "1+1-");
        levelsAre(2, 3, "1+2-");
        levelsAre(2, 3, "2+1-");
        levelsAre(1, 4, "1+3-");
        levelsAre(1, 4, "3-1+");
        levelsAre(1, 7, "1+3+5+");
        levelsAre(1, 7, "6+1+4-");
        levelsAre(2, 7, "1+3+5+2+4+6+");
        levelsAre(6, 7, "1+2+3+4+5+6+");
        levelsAre(6, 7, "6+5+4+3+2+1+");
        levelsAre(300, 7, "50(6(6-))");
        levelsAre(300, 2, "50(6(1+))");
        levelsAre(150, 4, "50(3(1+3+))");
        // The first that it can have: a later one may lie ahead of the highest so far.
        levelsAre(3, 7, "1+1+1+ 4+5+");
        levelsAre(4, 7, "1+1+1+ 6+ 2+");
        levelsAre(4, 7, "1+1+1+ 3+ 2+");
        levelsAre(5, 7, "1+1+1+ 2+ 6+ 3+");
    }

    private static void use() {
        Sentences.quote(TERMS, "USE of a straw (by its place), made once: 2 for each LEVEL, and 1 for each CROSSING in which it"
                + " lies over.");
        usesAre(2, "", 0, 0);
        usesAre(7, "", 0, 0, 0, 0, 0, 0, 0);
        usesAre(2, "1+", 3, 2);
        usesAre(2, "1-", 2, 3);
        usesAre(2, "1+1+", 5, 5);
        usesAre(2, "1+1-", 6, 4);
        usesAre(3, "1+2-", 5, 4, 5);
        usesAre(4, "1+3+", 3, 2, 3, 2);
        usesAre(7, "6-", 2, 2, 2, 2, 2, 2, 3);
        usesAre(2, "50(6(1+))", 750, 750);
        usesAre(2, "50(3(1+1-))", 900, 600);
        usesAre(3, "1+2+", 6, 4, 4);
    }

    private static void usesAre(int straws, String text, int... uses) {
        PlaitBench x = made(straws, text);
        for (int place = 1; place <= straws; place++) {
            Check.same("USE of " + place + " in '" + text + "'", uses[place - 1], x.use(0, place));
        }
    }

    private static void promise5() {
        Sentences.quote(5, "How many CROSSINGS a PATTERN has; NONE: it is none.");
        PlaitBench x = new PlaitBench();
        for (int k = 0; k < 8; k++) {
            Check.same("none yet", NONE, x.size(k));
        }
        Check.pattern(x, 0, 3, "");
        Check.pattern(x, 7, 3, "50(6(1+))");
        Check.pattern(x, 3, 3, "1-");
        Check.same("of no crossings", 0, x.size(0));
        Check.same("of the most", 300, x.size(7));
        Check.same("of one", 1, x.size(3));
        Check.same("still none", NONE, x.size(1));
        for (int k : NO_PATTERNS) {
            Check.same("size(" + k + ")", NONE, x.size(k));
        }
    }

    private static void promise6() {
        Sentences.quote(6, "The j-th CROSSING: its number, less than 0 with -.");
        PlaitBench x = made(7, "1+6-1-6+");
        Check.same("the first", 1, x.crossing(0, 0));
        Check.same("the second", -6, x.crossing(0, 1));
        Check.same("the third", -1, x.crossing(0, 2));
        Check.same("the last", 6, x.crossing(0, 3));
        PlaitBench y = made(7, "50(5(1+))49(2-)6-");
        Check.same("the first of 300", 1, y.crossing(0, 0));
        Check.same("the last but one", -2, y.crossing(0, 298));
        Check.same("the last of 300", -6, y.crossing(0, 299));
        Sentences.quote(6, "NoSuchElementException: there is none.");
        for (int j : new int[] {-1, 4, 5, 299, 300, BIG, SMALL}) {
            Check.none("crossing " + j + " of 4", () -> x.crossing(0, j));
        }
        for (int j : new int[] {-1, 300, 301, BIG, SMALL}) {
            Check.none("crossing " + j + " of 300", () -> y.crossing(0, j));
        }
        Check.none("of an empty row", () -> made(2, "").crossing(0, 0));
        Check.none("of no pattern yet", () -> x.crossing(1, 0));
        for (int k : NO_PATTERNS) {
            Check.none("of pattern " + k, () -> x.crossing(k, 0));
        }
        Check.pattern(y, 0, 7, "1+2+");
        Check.none("of what it was", () -> y.crossing(0, 2));
    }

    private static void promise7() {
        Sentences.quote(7, "Of a PATTERN: 0 STRAWS, 1 HOME, 2 RINGS, 3 whether it HOLDS (1), 4 LEVELS, 5 POWER of its FORM, 6"
                + " how many FACTORS.");
        int[] empty = {7, 1, 7, 0, 0, 0, 0};
        int[] plain = {3, 3, 1, 1, 2, -1, 2};
        int[] full = {2, 1, 2, 1, 300, 300, 0};
        PlaitBench x = made(7, "");
        Check.pattern(x, 1, 3, "1+2-");
        Check.pattern(x, 7, 2, "50(6(1+))");
        for (int what = 0; what <= 6; what++) {
            Check.same("about(0, " + what + ")", empty[what], x.about(0, what));
            Check.same("about(1, " + what + ")", plain[what], x.about(1, what));
            Check.same("about(7, " + what + ")", full[what], x.about(7, what));
        }
        Sentences.quote(7, "NoSuchElementException: no such PATTERN, what.");
        for (int what : new int[] {-1, 7, 8, BIG, SMALL}) {
            Check.none("about(1, " + what + ")", () -> x.about(1, what));
        }
        for (int what = 0; what <= 6; what++) {
            int asked = what;
            Check.none("of none yet, " + what, () -> x.about(2, asked));
            for (int k : NO_PATTERNS) {
                Check.none("about(" + k + ", " + what + ")", () -> x.about(k, asked));
            }
        }
    }

    private static void promise8() {
        Sentences.quote(8, "The j-th FACTOR of its FORM, as its PERMUTATION.");
        PlaitBench x = made(4, "1+ 1+2+ 2+3+");
        Check.same("how many", 3, x.about(0, 6));
        Check.same("the first", permutation("2134"), x.factor(0, 0));
        Check.same("the second", permutation("3124"), x.factor(0, 1));
        Check.same("the last", permutation("1423"), x.factor(0, 2));
        PlaitBench y = made(7, "50(5(1+))49(1+)1+");
        Check.same("the first of 300", permutation("2134567"), y.factor(0, 0));
        Check.same("the last of 300", permutation("2134567"), y.factor(0, 299));
        // A D is no FACTOR, wherever in the row it comes about.
        formIs(4, whole(4) + "1+1+2+", 1, permutation("2134"), permutation("3124"));
        formIs(4, "1+1+" + whole(4), 1, permutation("1243"), permutation("1243"));
        Sentences.quote(8, "NoSuchElementException: there is none.");
        for (int j : new int[] {-1, 3, 4, BIG, SMALL}) {
            Check.none("factor " + j + " of 3", () -> x.factor(0, j));
        }
        for (int j : new int[] {-1, 300, 301, BIG, SMALL}) {
            Check.none("factor " + j + " of 300", () -> y.factor(0, j));
        }
        Check.none("of an empty row", () -> made(5, "").factor(0, 0));
        Check.none("of D alone", () -> made(5, whole(5)).factor(0, 0));
        Check.none("of two straws", () -> made(2, "1+1+1+").factor(0, 0));
        Check.none("of two straws undone", () -> made(2, "1-1-1-").factor(0, 0));
        Check.none("of no pattern yet", () -> x.factor(1, 0));
        for (int k : NO_PATTERNS) {
            Check.none("of pattern " + k, () -> x.factor(k, 0));
        }
    }

    private static void promise9() {
        Sentences.quote(9, "Whether two PATTERNS are ALIKE (false: of unlike STRAWS).");
        PlaitBench x = made(3, "1+2+1+");
        Check.pattern(x, 1, 3, "2+1+2+");
        Check.pattern(x, 2, 3, "");
        Check.pattern(x, 3, 3, "1-1+");
        Check.pattern(x, 4, 4, "1+2+1+");
        Check.pattern(x, 5, 4, "");
        Check.pattern(x, 6, 7, "50(6(6-))");
        Check.pattern(x, 7, 7, "50(6(6-))");
        Check.holds("alike", x.alike(0, 1) && x.alike(1, 0));
        Check.holds("each with itself", x.alike(0, 0) && x.alike(2, 2) && x.alike(7, 7));
        Check.holds("both are none", x.alike(2, 3));
        Check.holds("two full ones", x.alike(6, 7));
        Check.holds("not alike", !x.alike(0, 2) && !x.alike(2, 0));
        Check.holds("of unlike straws", !x.alike(0, 4) && !x.alike(4, 0));
        Check.holds("of unlike straws, without crossings", !x.alike(2, 5) && !x.alike(5, 2));
        PlaitBench y = made(2, "1+");
        Check.pattern(y, 1, 3, "1+2+1+");
        Check.holds("D alone, of unlike straws", !y.alike(0, 1));
        Sentences.quote(9, "NoSuchElementException: no such PATTERNS.");
        Check.none("no second", () -> y.alike(0, 2) ? 1 : 0);
        Check.none("no first", () -> y.alike(2, 0) ? 1 : 0);
        Check.none("neither", () -> y.alike(2, 3) ? 1 : 0);
        Check.none("one that is none, with itself", () -> y.alike(2, 2) ? 1 : 0);
        for (int k : NO_PATTERNS) {
            Check.none("alike(" + k + ", 0)", () -> y.alike(k, 0) ? 1 : 0);
            Check.none("alike(0, " + k + ")", () -> y.alike(0, k) ? 1 : 0);
            Check.none("alike(" + k + ", " + k + ")", () -> y.alike(k, k) ? 1 : 0);
        }
    }

    private static void untwinedIs(int due, int straws, String text) {
        PlaitBench x = made(straws, text);
        Check.same("untwined '" + text + "' of " + straws, due, x.untwined(0));
        Check.same("asked again", due, x.untwined(0));
    }

    private static void promise10() {
        Sentences.quote(10, "The least m, from 1 to 12, and with m times its CROSSINGS at most 600, for which PATTERN k made m"
                + " times is ALIKE D made some even number of times (undone, or none at all, too): m; NONE.");
        for (int n = 2; n <= 7; n++) {
            untwinedIs(1, n, "");
            untwinedIs(1, n, "1+1-");
            untwinedIs(2, n, whole(n));
            untwinedIs(2, n, "u(" + whole(n) + ")");
            untwinedIs(1, n, "2(" + whole(n) + ")");
            untwinedIs(1, n, "u(2(" + whole(n) + "))");
            untwinedIs(2, n, "3(" + whole(n) + ")");
            untwinedIs(n, n, oncePlaited(n));
            untwinedIs(n, n, "u(" + oncePlaited(n) + ")");
            untwinedIs(n == 2 ? 1 : n - 1, n, oncePlaited(n) + "1+");
        }
        // HOME is 12, but what is home is not D alone.
        untwinedIs(NONE, 7, "1+2+3+ 5+6+");
        untwinedIs(NONE, 3, "1+2-");
        untwinedIs(NONE, 3, "1+");
        untwinedIs(NONE, 3, "1+1+");
        untwinedIs(2, 4, "2(1+2+3+)");
        untwinedIs(4, 4, "3(1+2+3+)");
        untwinedIs(1, 4, "4(1+2+3+)");
    }

    /** 1+2+3+ and so on: D made twice is this, made n times. */
    private static String oncePlaited(int straws) {
        StringBuilder row = new StringBuilder();
        for (int i = 1; i < straws; i++) {
            row.append(i).append('+');
        }
        return row.toString();
    }

    private static void promise10Most() {
        // 2 times 300 and 3 times 200 and 5 times 120 are 600.
        untwinedIs(1, 7, "50(3(1+1-))");
        untwinedIs(2, 2, "50(5(1+))49(1+)");
        untwinedIs(2, 5, "29(5(1+1-))" + whole(5));
        untwinedIs(3, 3, "33(3(1+1-))1+2+");
        untwinedIs(NONE, 3, "50(2(1+1-))1+2+");
        untwinedIs(5, 5, "29(2(1+1-))1+2+3+4+");
        untwinedIs(NONE, 5, "29(2(1+1-))1+1-1+2+3+4+");
        untwinedIs(7, 7, "39(1+1-)1+2+3+4+5+6+");
        untwinedIs(NONE, 7, "40(1+1-)1+2+3+4+5+6+");
        untwinedIs(6, 7, "46(1+1-)1+2+3+4+5+6+1+");
        untwinedIs(NONE, 7, "47(1+1-)1+2+3+4+5+6+1+");
        Sentences.quote(10, "NoSuchElementException: no such PATTERN.");
        PlaitBench x = made(3, "");
        Check.none("none yet", () -> x.untwined(1));
        for (int k : NO_PATTERNS) {
            Check.none("untwined(" + k + ")", () -> x.untwined(k));
        }
    }

    private static void promise11() {
        Sentences.quote(11, "To which place the straw of a place comes (made once).");
        PlaitBench x = made(7, "1+2-3+4-5+6-");
        Check.same("from the first", 7, x.goes(0, 1));
        Check.same("from the second", 1, x.goes(0, 2));
        Check.same("from the last", 6, x.goes(0, 7));
        PlaitBench y = made(2, "");
        Check.same("it stays", 1, y.goes(0, 1));
        Check.same("it stays too", 2, y.goes(0, 2));
        Check.pattern(y, 0, 2, "50(5(1+))49(1-)");
        Check.same("299 times", 2, y.goes(0, 1));
        Check.pattern(y, 0, 2, "50(6(1+))");
        Check.same("300 times", 1, y.goes(0, 1));
        Sentences.quote(11, "NoSuchElementException: no such PATTERN, place.");
        for (int place : new int[] {0, -1, 8, 9, BIG, SMALL}) {
            Check.none("from " + place + " of 7", () -> x.goes(0, place));
        }
        for (int n = 2; n <= 7; n++) {
            PlaitBench z = made(n, "");
            int last = n;
            Check.same("from the last of " + n, n, z.goes(0, n));
            Check.none("behind the last of " + n, () -> z.goes(0, last + 1));
            Check.none("ahead of the first of " + n, () -> z.goes(0, 0));
        }
        Check.none("of none yet", () -> x.goes(1, 1));
        for (int k : NO_PATTERNS) {
            Check.none("goes(" + k + ", 1)", () -> x.goes(k, 1));
        }
    }

    private static void promise12() {
        Sentences.quote(12, "TWINE of two straws.");
        PlaitBench x = made(7, "6+6+1-");
        Check.same("the last two", 4, x.twine(0, 6, 7));
        Check.same("the other way", 4, x.twine(0, 7, 6));
        Check.same("the first two", -2, x.twine(0, 1, 2));
        Check.same("the first and the last", 0, x.twine(0, 1, 7));
        Sentences.quote(12, "NoSuchElementException: no such PATTERN, places, or both are one.");
        for (int place : new int[] {0, -1, 8, 9, BIG, SMALL}) {
            Check.none("twine(0, " + place + ", 1)", () -> x.twine(0, place, 1));
            Check.none("twine(0, 1, " + place + ")", () -> x.twine(0, 1, place));
            Check.none("both are " + place, () -> x.twine(0, place, place));
        }
        for (int n = 2; n <= 7; n++) {
            PlaitBench z = made(n, "");
            int last = n;
            Check.same("the first and the last of " + n, 0, z.twine(0, 1, n));
            Check.none("one behind the last of " + n, () -> z.twine(0, 1, last + 1));
            Check.none("both are the last of " + n, () -> z.twine(0, last, last));
        }
        Check.none("both are the first", () -> x.twine(0, 1, 1));
        Check.none("of none yet", () -> x.twine(1, 1, 2));
        for (int k : NO_PATTERNS) {
            Check.none("twine(" + k + ", 1, 2)", () -> x.twine(k, 1, 2));
        }
    }

    private static void promise13() {
        Sentences.quote(13, "USE of a straw.");
        PlaitBench x = made(7, "1-6+");
        Check.same("the first", 2, x.use(0, 1));
        Check.same("the second", 3, x.use(0, 2));
        Check.same("the last but one", 3, x.use(0, 6));
        Check.same("the last", 2, x.use(0, 7));
        Sentences.quote(13, "NoSuchElementException: no such PATTERN, place.");
        for (int place : new int[] {0, -1, 8, 9, BIG, SMALL}) {
            Check.none("use of " + place, () -> x.use(0, place));
        }
        for (int n = 2; n <= 7; n++) {
            PlaitBench z = made(n, "");
            int last = n;
            Check.same("the last of " + n, 0, z.use(0, n));
            Check.none("behind the last of " + n, () -> z.use(0, last + 1));
            Check.none("ahead of the first of " + n, () -> z.use(0, 0));
        }
        Check.none("of none yet", () -> x.use(1, 1));
        for (int k : NO_PATTERNS) {
            Check.none("use(" + k + ", 1)", () -> x.use(k, 1));
        }
    }
}
