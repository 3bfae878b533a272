/** The boundaries of bundles, scores and hats: part 4 of the terms, promises 1 and 14 to 20. */
final class StockBoundaries {
    private static final int NONE = PlaitBench.NONE;
    private static final int BIG = Integer.MAX_VALUE;
    private static final int SMALL = Integer.MIN_VALUE;
    private static final int TERMS = Sentences.TERMS;

    private StockBoundaries() {
    }

    static void run() {
        calls();
        constants();
        promise1();
        bundlesTerms();
        scoreTakesByPlaces();
        scoreTakesInOrder();
        scoreLengths();
        hatTurns();
        hatTakesInOrder();
        hatFields();
        promise14();
        promise15();
        promise16();
        promise16Refuses();
        promise17();
        promise18();
        promise18Refuses();
        promise19();
        promise20();
    }

    /** Pattern 0 holds, has 3 straws and 2 LEVELS, and takes 3 straws up to 21 times; 1 does not hold. */
    private static PlaitBench bench() {
        PlaitBench x = new PlaitBench();
        Check.pattern(x, 0, 3, "1+2-");
        Check.pattern(x, 1, 3, "1+2+");
        return x;
    }

    /** Pattern 0 has 1 LEVEL; pattern 1 has 300. There are straws enough of width 1 and of another one. */
    private static PlaitBench benchOfLengths(int otherWidth) {
        PlaitBench x = new PlaitBench();
        Check.pattern(x, 0, 2, "1+");
        Check.pattern(x, 1, 2, "50(6(1+))");
        for (int made = 0; made < 4; made++) {
            x.bundle(1, 1, 5000);
            x.bundle(2, otherWidth, 5000);
        }
        return x;
    }

    private static void calls() {
        Sentences.quote(TERMS, "An object is used for at most 512 calls after it has been made; what later calls answer is free.");
        PlaitBench x = new PlaitBench();
        Check.pattern(x, 0, 3, "1+2-");
        int called = 2;
        for (int number = 0; number < 40; number++, called++) {
            Check.same("bundle", number, x.bundle(number % 32, 1, 5000));
        }
        for (int number = 0; number < 60; number++, called += 2) {
            Check.same("score", number, x.score(0, 1, 1));
            Check.same("hat", number, x.hat(1, 1));
        }
        while (called < 510) {
            Check.same("call " + (called + 1), -1, x.untwined(0));
            called++;
        }
        Check.same("call 511", 60, x.count(2));
        Check.same("call 512", 40 * 5000 - 60 * 3, x.count(4));
    }

    private static void constants() {
        Sentences.quote(TERMS, "The constants: `NONE = -1`: There is none.");
        Check.same("NONE", -1, PlaitBench.NONE);
    }

    private static void promise1() {
        Sentences.quote(1, "No PATTERNS, BUNDLES.");
        PlaitBench x = new PlaitBench();
        for (int k = 0; k < 8; k++) {
            int none = k;
            Check.same("size", NONE, x.size(k));
            Check.none("about", () -> x.about(none, 0));
            Check.same("score", NONE, x.score(k, 1, 1));
        }
        for (int what = 0; what <= 4; what++) {
            Check.same("count(" + what + ")", 0, x.count(what));
        }
        Check.none("left", () -> x.left(0));
        Check.none("scored", () -> x.scored(0, 0));
        Check.none("sewn", () -> x.sewn(0, 0));
        Check.same("hat", NONE, x.hat(1, 1));
        PlaitBench y = bench();
        y.bundle(0, 1, 9);
        y.score(0, 1, 1);
        y.hat(1, 1);
        Check.feed(y, "1+");
        Check.same("one object's patterns are not the other's", NONE, x.size(0));
        for (int what = 0; what <= 4; what++) {
            Check.same("nor is its count(" + what + ")", 0, x.count(what));
            Check.holds("which it has", y.count(what) > 0);
        }
    }

    private static void bundlesTerms() {
        Sentences.quote(TERMS, "BUNDLES, from 0 on, at most 40: a field (0 to 31), a width (1 to 9), straws (1 to 5000), each"
                + " 100 long.");
        PlaitBench x = new PlaitBench();
        for (int number = 0; number < 40; number++) {
            Check.same("the next", number, x.bundle(number % 32, 1 + number % 9, number % 2 == 0 ? 1 : 5000));
        }
        Check.same("the 41st", NONE, x.bundle(0, 1, 1));
        Check.same("there are 40", 40, x.count(0));
        // 100 long: a straw of which just 100 is used is one, of 101 it is two.
        PlaitBench y = new PlaitBench();
        y.bundle(0, 1, 5000);
        straws(y, 2, "40(1+)", 1, 2);
        straws(y, 2, "41(1+)", 1, 4);
        straws(y, 2, "1+", 40, 2);
        straws(y, 2, "1+", 41, 4);
        straws(y, 3, "21(1+2-)", 1, 3);
        // USES of 101, 100 and 100.
        straws(y, 3, "21(1+2-)1+", 1, 4);
    }

    private static void straws(PlaitBench x, int straws, String text, int times, int due) {
        Check.pattern(x, 0, straws, text);
        int number = x.score(0, times, 1);
        Check.same("straws of " + times + " times '" + text + "'", due, number == NONE ? NONE : x.scored(number, 4));
    }

    private static void scoreTakesByPlaces() {
        Sentences.quote(TERMS, "A SCORE is made of a PATTERN so many times (1 to 200), of straws of a width: it takes for each"
                + " place of the beginning as many as the USES of the straw that begins there, all those times"
                + " together, need (as it comes through the places), 100 each, the last one in part;");
        PlaitBench x = new PlaitBench();
        x.bundle(0, 1, 5000);
        x.bundle(0, 1, 5000);
        straws(x, 2, "1+", 1, 2);
        straws(x, 7, "1+2-3+4-5+6-", 1, 7);
        // As it comes through the places: 3 and 2 in turn. Staying at its place, one would use 120.
        straws(x, 2, "1+", 40, 2);
        // Each place for itself: 102 and 103 are two each, though both need no more than three.
        straws(x, 2, "1+", 41, 4);
        // 200 times 3 and 2 in turn is 500 each.
        straws(x, 2, "1+", 200, 10);
        straws(x, 2, "1+", 199, 10);
        // Where straws come home at once each stays with its own use: 5 each time.
        straws(x, 2, "1+1+", 20, 2);
        straws(x, 2, "1+1+", 21, 4);
        straws(x, 2, "1+1+", 200, 20);
        straws(x, 2, "50(6(1+))", 200, 3000);
        Check.same("0 times", NONE, x.score(0, 0, 1));
        Check.same("201 times", NONE, x.score(0, 201, 1));
        // In 3 straws the uses are 5, 4 and 5, through which each comes: 14 in 3 times, 98 in 21 times.
        straws(x, 3, "1+2-", 21, 3);
        straws(x, 3, "1+2-", 22, 6);
        straws(x, 3, "1+2-", 42, 6);
        straws(x, 3, "1+2-", 43, 8);
        straws(x, 3, "1+2-", 200, 30);
    }

    private static void scoreTakesInOrder() {
        Sentences.quote(TERMS, "from the BUNDLES of that width in their order.");
        PlaitBench x = bench();
        x.bundle(1, 2, 3);
        x.bundle(2, 3, 9);
        x.bundle(3, 2, 1);
        x.bundle(4, 2, 1);
        x.bundle(5, 2, 2);
        Check.same("all of the first", 0, x.score(0, 1, 2));
        lefts(x, 0, 9, 1, 1, 2);
        Check.same("its fields", 1 << 1, x.scored(0, 3));
        Check.same("of three", 1, x.score(0, 1, 2));
        lefts(x, 0, 9, 0, 0, 1);
        Check.same("their fields", 1 << 3 | 1 << 4 | 1 << 5, x.scored(1, 3));
        Check.same("too few of them", NONE, x.score(0, 1, 2));
        lefts(x, 0, 9, 0, 0, 1);
        x.bundle(6, 2, 2);
        Check.same("one of an old, two of a new one", 2, x.score(0, 1, 2));
        lefts(x, 0, 9, 0, 0, 0, 0);
        Check.same("their fields", 1 << 5 | 1 << 6, x.scored(2, 3));
        Check.same("of the other width", 3, x.score(0, 1, 3));
        lefts(x, 0, 6, 0, 0, 0, 0);
        Check.same("its field", 1 << 2, x.scored(3, 3));
    }

    private static void lefts(PlaitBench x, int... due) {
        for (int bundle = 0; bundle < due.length; bundle++) {
            Check.same("left of bundle " + bundle, due[bundle], x.left(bundle));
        }
    }

    private static void scoreLengths() {
        Sentences.quote(TERMS, "Its LENGTH is 2 for each LEVEL each time; its FIELDS those of the BUNDLES. SCORES, from 0 on, at"
                + " most 60; each has LENGTH left.");
        PlaitBench x = benchOfLengths(9);
        Check.same("one LEVEL, once", 0, x.score(0, 1, 1));
        Check.same("its LENGTH", 2, x.scored(0, 0));
        Check.same("one LEVEL, 200 times", 1, x.score(0, 200, 1));
        Check.same("its LENGTH", 400, x.scored(1, 0));
        Check.same("300 LEVELS, once", 2, x.score(1, 1, 1));
        Check.same("its LENGTH", 600, x.scored(2, 0));
        Check.same("300 LEVELS, 200 times", 3, x.score(1, 200, 1));
        Check.same("its LENGTH", 120000, x.scored(3, 0));
        Check.same("all of it is left", 120000, x.scored(3, 1));
        Check.pattern(x, 0, 4, "1+3+2-");
        Check.same("three crossings on two LEVELS", 4, x.score(0, 5, 1));
        Check.same("their LENGTH", 20, x.scored(4, 0));
        PlaitBench y = bench();
        y.bundle(0, 1, 1);
        y.bundle(31, 1, 1);
        y.bundle(0, 1, 1);
        y.bundle(30, 1, 500);
        Check.same("the first", 0, y.score(0, 1, 1));
        Check.same("the least field and the greatest, one of them twice", 1 | SMALL, y.scored(0, 3));
        for (int number = 1; number < 60; number++) {
            Check.same("the next", number, y.score(0, 1, 1));
        }
        Check.same("the 61st", NONE, y.score(0, 1, 1));
        Check.same("there are 60", 60, y.count(1));
        Check.same("nothing was taken for it", 500 - 59 * 3, y.left(3));
    }

    private static void hatTurns() {
        Sentences.quote(TERMS, "A HAT of a width and radius R (a multiple of the width; 1 to 400): R / width turns; turn k (from"
                + " 1 on) takes 710 * (2 k - 1) * width / 226, cut down, and 1:");
        int[] oneTurn = {4, 7, 10, 13, 16, 19, 22, 26, 29};
        int[] twoTurns = {14, 26, 39, 51, 64, 76, 88, 102, 114};
        for (int width = 1; width <= 9; width++) {
            PlaitBench x = benchOfLengths(width);
            x.score(1, 200, width);
            Check.same("one turn", 0, x.hat(width, width));
            Check.same("its length", oneTurn[width - 1], x.sewn(0, 0));
            Check.same("one turn is one", 1, x.sewn(0, 1));
            Check.same("two turns", 1, x.hat(width, 2 * width));
            Check.same("their length", twoTurns[width - 1], x.sewn(1, 0));
            Check.same("two turns are two", 2, x.sewn(1, 1));
            int turns = 400 / width;
            Check.same("above 400", NONE, x.hat(width, (turns + 1) * width));
            for (int r = 1; r < 2 * width; r++) {
                Check.same("no multiple, or one turn", r == width ? 2 : NONE, x.hat(width, r));
            }
            Check.same("the most", width <= 4 ? NONE : 3, x.hat(width, turns * width));
        }
        // 710 * 113 / 226 is just 355: it takes 1 more all the same.
        PlaitBench y = benchOfLengths(2);
        y.score(1, 200, 1);
        y.hat(1, 56);
        y.hat(1, 57);
        Check.same("turn 57", 356, y.sewn(1, 0) - y.sewn(0, 0));
    }

    private static void hatTakesInOrder() {
        Sentences.quote(TERMS, "LENGTHS of all turns together, from the SCORES of that width in their order, of each all that is"
                + " left until there is enough.");
        PlaitBench x = benchOfLengths(2);
        // LENGTHS 2, 4 and 4 of width 1; one turn takes 4, two take 14.
        x.score(0, 1, 1);
        x.score(0, 9, 2);
        x.score(0, 2, 1);
        x.score(0, 2, 1);
        Check.same("two turns are too long", NONE, x.hat(1, 2));
        lengths(x, 2, 18, 4, 4);
        Check.same("all of the first, some of the next", 0, x.hat(1, 1));
        lengths(x, 0, 18, 2, 4);
        Check.same("its scores", 1 | 1 << 2, x.sewn(0, 3));
        Check.same("of the next two", 1, x.hat(1, 1));
        lengths(x, 0, 18, 0, 2);
        Check.same("its scores", 1 << 2 | 1 << 3, x.sewn(1, 3));
        Check.same("too little", NONE, x.hat(1, 1));
        lengths(x, 0, 18, 0, 2);
        x.score(0, 6, 1);
        Check.same("all that there is", 2, x.hat(1, 2));
        lengths(x, 0, 18, 0, 0, 0);
        Check.same("its scores", 1 << 3 | 1 << 4, x.sewn(2, 3));
        x.score(0, 3, 1);
        Check.same("less than a score", 3, x.hat(1, 1));
        lengths(x, 0, 18, 0, 0, 0, 2);
        Check.same("its score", 1 << 5, x.sewn(3, 3));
        // 18 of width 2, of which a turn takes 7 and two take 26.
        Check.same("two turns of width 2", NONE, x.hat(2, 4));
        Check.same("a turn of width 2", 4, x.hat(2, 2));
        Check.same("another", 5, x.hat(2, 2));
        Check.same("no third", NONE, x.hat(2, 2));
        lengths(x, 0, 4, 0, 0, 0, 2);
        hatTakesTheLastOne();
    }

    private static void hatTakesTheLastOne() {
        // A turn of width 2 takes 7: 6 are one too few, 8 leave one, and that one is taken next.
        PlaitBench x = benchOfLengths(2);
        x.score(0, 3, 2);
        Check.same("one too few", NONE, x.hat(2, 2));
        lengths(x, 6);
        x.score(0, 1, 2);
        Check.same("one of the next", 0, x.hat(2, 2));
        lengths(x, 0, 1);
        x.score(0, 3, 2);
        Check.same("the last one, and all of the next", 1, x.hat(2, 2));
        lengths(x, 0, 0, 0);
        Check.same("its scores", 1 << 1 | 1 << 2, x.sewn(1, 3));
    }

    private static void lengths(PlaitBench x, int... due) {
        for (int score = 0; score < due.length; score++) {
            Check.same("LENGTH left of score " + score, due[score], x.scored(score, 1));
        }
    }

    private static void hatFields() {
        Sentences.quote(TERMS, "Its FIELDS are those of these SCORES. HATS, from 0 on, at most 60.");
        PlaitBench x = bench();
        x.bundle(0, 1, 3);
        x.bundle(31, 1, 2);
        x.bundle(7, 1, 1);
        x.bundle(8, 1, 600);
        // Scores of 4 each: of field 0; of fields 31 and 7; of field 8. Then a long one of field 8.
        for (int number = 0; number < 3; number++) {
            x.score(0, 1, 1);
        }
        x.score(0, 200, 1);
        x.hat(1, 1);
        Check.same("of the first score alone", 1, x.sewn(0, 2));
        x.hat(1, 2);
        Check.same("of the three others", SMALL | 1 << 7 | 1 << 8, x.sewn(1, 2));
        x.hat(1, 1);
        Check.same("of the last alone", 1 << 8, x.sewn(2, 2));
        for (int number = 3; number < 60; number++) {
            Check.same("the next", number, x.hat(1, 1));
        }
        Check.same("the 61st", NONE, x.hat(1, 1));
        Check.same("there are 60", 60, x.count(2));
        Check.same("nothing was taken for it", 800 - 6 - 58 * 4, x.scored(3, 1));
    }

    private static void promise14() {
        Sentences.quote(14, "A BUNDLE: its number. NONE: there are 40, or a number is not as told.");
        PlaitBench x = new PlaitBench();
        for (int field : new int[] {-1, 32, 33, 63, BIG, SMALL}) {
            Check.same("field " + field, NONE, x.bundle(field, 1, 1));
        }
        for (int width : new int[] {0, -1, 10, 11, BIG, SMALL}) {
            Check.same("width " + width, NONE, x.bundle(0, width, 1));
        }
        for (int straws : new int[] {0, -1, 5001, BIG, SMALL}) {
            Check.same("straws " + straws, NONE, x.bundle(0, 1, straws));
        }
        Check.same("none came", 0, x.count(0));
        Check.same("no straws came", 0, x.count(4));
        Check.same("the least of each", 0, x.bundle(0, 1, 1));
        Check.same("the greatest of each", 1, x.bundle(31, 9, 5000));
        Check.same("the straws of both", 5001, x.count(4));
        for (int number = 2; number < 40; number++) {
            Check.same("the next", number, x.bundle(31, 9, 5000));
        }
        Check.same("there are 40", NONE, x.bundle(31, 9, 5000));
        Check.same("and again", NONE, x.bundle(0, 1, 1));
        Check.same("the straws of all", 1 + 39 * 5000, x.count(4));
    }

    private static void promise15() {
        Sentences.quote(15, "How many straws a BUNDLE has left.");
        PlaitBench x = bench();
        x.bundle(0, 1, 4);
        x.bundle(0, 9, 5000);
        Check.same("all", 4, x.left(0));
        Check.same("the most", 5000, x.left(1));
        x.score(0, 1, 1);
        Check.same("one", 1, x.left(0));
        x.bundle(0, 1, 2);
        x.score(0, 1, 1);
        Check.same("none", 0, x.left(0));
        Check.same("none of the third", 0, x.left(2));
        Sentences.quote(15, "NoSuchElementException: there is none such.");
        for (int bundle : new int[] {-1, 3, 4, 39, 40, BIG, SMALL}) {
            Check.none("left(" + bundle + ")", () -> x.left(bundle));
        }
        PlaitBench y = new PlaitBench();
        Check.none("of a new object", () -> y.left(0));
        for (int number = 0; number < 40; number++) {
            y.bundle(0, 1, 1 + number);
        }
        Check.same("the 40th", 40, y.left(39));
        Check.none("the 41st", () -> y.left(40));
    }

    private static void promise16() {
        Sentences.quote(16, "A SCORE: its number.");
        PlaitBench x = bench();
        for (int width = 1; width <= 9; width++) {
            x.bundle(width, width, 3);
        }
        for (int width = 1; width <= 9; width++) {
            Check.same("of width " + width, width - 1, x.score(0, 1, width));
            Check.same("just enough", 0, x.left(width - 1));
            Check.same("no more", NONE, x.score(0, 1, width));
        }
        Check.same("there are nine", 9, x.count(1));
        PlaitBench y = bench();
        y.bundle(0, 1, 30);
        Check.same("200 times, of just as many straws", 0, y.score(0, 200, 1));
        Check.same("none is left", 0, y.count(4));
    }

    private static void promise16Refuses() {
        Sentences.quote(16, "NONE, and nothing changes: there are 60, no such PATTERN, it doesn't HOLD, times or the width are"
                + " not as told, or there are too few straws.");
        PlaitBench x = bench();
        Check.pattern(x, 2, 3, "");
        x.bundle(0, 1, 2);
        x.bundle(0, 2, 5000);
        Check.same("two straws of three", NONE, x.score(0, 1, 1));
        Check.same("both are left", 2, x.left(0));
        for (int k : new int[] {-1, 3, 7, 8, BIG, SMALL}) {
            Check.same("pattern " + k, NONE, x.score(k, 1, 2));
        }
        Check.same("it doesn't hold", NONE, x.score(1, 1, 2));
        Check.same("nor does an empty one", NONE, x.score(2, 1, 2));
        for (int times : new int[] {0, -1, 201, 202, BIG, SMALL}) {
            Check.same("times " + times, NONE, x.score(0, times, 2));
        }
        for (int width : new int[] {0, -1, 3, 9, 10, BIG, SMALL}) {
            Check.same("width " + width, NONE, x.score(0, 1, width));
        }
        Check.same("nothing was taken", 5002, x.count(4));
        Check.same("none came", 0, x.count(1));
        Check.none("there is no score 0", () -> x.scored(0, 0));
        for (int number = 0; number < 60; number++) {
            Check.same("the next", number, x.score(0, 1, 2));
        }
        Check.same("there are 60", NONE, x.score(0, 1, 2));
        Check.same("there are still 60", 60, x.count(1));
        Check.same("nothing was taken for it", 5000 - 180, x.left(1));
        // One too few in a long score: it takes 30.
        PlaitBench y = bench();
        y.bundle(0, 1, 14);
        y.bundle(0, 1, 15);
        Check.same("29 straws of 30", NONE, y.score(0, 200, 1));
        Check.same("the first is as it was", 14, y.left(0));
        Check.same("the second is as it was", 15, y.left(1));
        y.bundle(0, 1, 1);
        Check.same("30 straws of 30", 0, y.score(0, 200, 1));
        Check.same("all are used", 0, y.count(4));
    }

    private static void promise17() {
        Sentences.quote(17, "Of a SCORE: 0 LENGTH, 1 LENGTH left, 2 its width, 3 FIELDS as bits, 4 straws that it took.");
        PlaitBench x = bench();
        x.bundle(0, 9, 3);
        x.bundle(31, 1, 30);
        x.score(0, 1, 9);
        x.score(0, 200, 1);
        scoreIs(x, 0, 4, 4, 9, 1, 3);
        scoreIs(x, 1, 800, 800, 1, SMALL, 30);
        x.hat(1, 1);
        scoreIs(x, 1, 800, 796, 1, SMALL, 30);
        Check.pattern(x, 0, 2, "");
        scoreIs(x, 1, 800, 796, 1, SMALL, 30);
        PlaitBench y = bench();
        for (int field = 0; field < 32; field++) {
            y.bundle(field, 1, 1);
        }
        y.bundle(5, 1, 1);
        // 22 times take 6 straws, 5 scores of them 30, and one of 3 the last.
        for (int number = 0; number < 5; number++) {
            y.score(0, 22, 1);
            Check.same("six fields", 63 << 6 * number, y.scored(number, 3));
        }
        y.score(0, 1, 1);
        Check.same("the last two and field 5", 3 << 30 | 1 << 5, y.scored(5, 3));
        PlaitBench z = bench();
        Check.pattern(z, 2, 2, "40(1+)1+");
        for (int field = 0; field < 32; field++) {
            z.bundle(field, 1, 1);
        }
        z.score(2, 8, 1);
        Check.same("8 times 103 and 102 in turn", 18, z.scored(0, 4));
        Check.same("18 fields", (1 << 18) - 1, z.scored(0, 3));
        Sentences.quote(17, "NoSuchElementException: there is none such, another what.");
        for (int what : new int[] {-1, 5, 6, BIG, SMALL}) {
            Check.none("scored(0, " + what + ")", () -> x.scored(0, what));
        }
        for (int score : new int[] {-1, 2, 3, 59, 60, BIG, SMALL}) {
            Check.none("scored(" + score + ", 0)", () -> x.scored(score, 0));
        }
    }

    private static void scoreIs(PlaitBench x, int score, int... due) {
        for (int what = 0; what < due.length; what++) {
            Check.same("scored(" + score + ", " + what + ")", due[what], x.scored(score, what));
        }
    }

    private static void promise18() {
        Sentences.quote(18, "A HAT: its number.");
        PlaitBench x = benchOfLengths(8);
        x.score(1, 200, 8);
        for (int made = 0; made < 5; made++) {
            Check.same("five of 120000", 1 + made, x.score(1, 200, 1));
        }
        Check.same("the least radius", 0, x.hat(1, 1));
        Check.same("a greater radius, though there is enough", NONE, x.hat(1, 401));
        Check.same("the greatest radius", 1, x.hat(1, 400));
        Check.same("its turns", 400, x.sewn(1, 1));
        Check.same("its scores", 62, x.sewn(1, 3));
        Check.same("the greatest of width 8", 2, x.hat(8, 400));
        Check.same("its turns", 50, x.sewn(2, 1));
        long area = 0;
        long broadArea = 0;
        for (long turn = 1; turn <= 400; turn++) {
            area += 710 * (2 * turn - 1) / 226 + 1;
            broadArea += turn <= 50 ? 710 * (2 * turn - 1) * 8 / 226 + 1 : 0;
        }
        Check.same("its length", area, x.sewn(1, 0));
        Check.same("the length of width 8", broadArea, x.sewn(2, 0));
        Check.same("what is left", 600000 - 4 - area, x.scored(5, 1));
    }

    private static void promise18Refuses() {
        Sentences.quote(18, "NONE, and nothing changes: there are 60, R or the width are not as told, or there is too little.");
        PlaitBench x = benchOfLengths(9);
        x.score(0, 200, 1);
        x.score(0, 200, 9);
        x.score(0, 3, 1);
        for (int width : new int[] {0, -1, 2, 10, BIG, SMALL}) {
            Check.same("width " + width, NONE, x.hat(width, width));
            Check.same("width " + width + ", radius 360", NONE, x.hat(width, 360));
        }
        for (int r : new int[] {0, -1, -9, 401, 405, BIG, SMALL}) {
            Check.same("radius " + r, NONE, x.hat(1, r));
            Check.same("radius " + r + " of width 9", NONE, x.hat(9, r));
        }
        for (int r : new int[] {1, 8, 10, 17, 19, 28}) {
            Check.same("no multiple " + r, NONE, x.hat(9, r));
        }
        lengths(x, 400, 400, 6);
        Check.same("none came", 0, x.count(2));
        Check.none("there is no hat 0", () -> x.sewn(0, 0));
        // 11 turns of width 1 take 385, 12 take 458: there are 406.
        Check.same("12 turns", NONE, x.hat(1, 12));
        lengths(x, 400, 400, 6);
        Check.same("11 turns", 0, x.hat(1, 11));
        Check.same("their length", 385, x.sewn(0, 0));
        lengths(x, 15, 400, 6);
        // 21 are left: five hats of 4, and no sixth of the last 1.
        for (int number = 1; number <= 5; number++) {
            Check.same("one turn", number, x.hat(1, 1));
        }
        Check.same("1 of 4", NONE, x.hat(1, 1));
        lengths(x, 0, 400, 1);
        PlaitBench y = benchOfLengths(9);
        y.score(1, 1, 1);
        for (int number = 0; number < 60; number++) {
            Check.same("the next", number, y.hat(1, 1));
        }
        Check.same("there are 60", NONE, y.hat(1, 1));
        Check.same("there are still 60", 60, y.count(2));
        Check.same("nothing was taken for it", 600 - 240, y.scored(0, 1));
    }

    private static void promise19() {
        Sentences.quote(19, "Of a HAT: 0 its LENGTH in all, 1 turns, 2 FIELDS as bits, 3 SCORES of which it is as bits (of the"
                + " first 31).");
        PlaitBench x = bench();
        x.bundle(31, 1, 3);
        x.bundle(0, 1, 5000);
        for (int number = 0; number < 34; number++) {
            x.score(0, 1, 1);
        }
        hatIs(x, 1, 0, 4, 1, SMALL, 1);
        hatIs(x, 2, 1, 14, 2, 1, 2 | 4 | 8 | 16);
        for (int number = 0; number < 5; number++) {
            Check.same("the next", 2 + number, x.hat(1, 1));
        }
        // Two of score 9 are left, and all of those behind it: 30 are the two and seven times 4.
        hatIs(x, 3, 7, 30, 3, 1, 0xff << 9);
        for (int number = 8; number < 20; number++) {
            x.hat(1, 1);
        }
        Check.same("score 28", 1 << 28, x.sewn(19, 3));
        hatIs(x, 2, 20, 14, 2, 1, 1 << 29 | 1 << 30);
        Check.same("of scores behind the first 31", 21, x.hat(1, 1));
        Check.same("no bits", 0, x.sewn(21, 3));
        Check.same("its field all the same", 1, x.sewn(21, 2));
        Sentences.quote(19, "NoSuchElementException: there is none such, another what.");
        for (int what : new int[] {-1, 4, 5, BIG, SMALL}) {
            Check.none("sewn(0, " + what + ")", () -> x.sewn(0, what));
        }
        for (int hat : new int[] {-1, 22, 23, 59, 60, BIG, SMALL}) {
            Check.none("sewn(" + hat + ", 0)", () -> x.sewn(hat, 0));
        }
    }

    private static void hatIs(PlaitBench x, int r, int hat, int... due) {
        Check.same("hat of radius " + r, hat, x.hat(1, r));
        for (int what = 0; what < due.length; what++) {
            Check.same("sewn(" + hat + ", " + what + ")", due[what], x.sewn(hat, what));
        }
    }

    private static void promise20() {
        Sentences.quote(20, "0 BUNDLES, 1 SCORES, 2 HATS, 3 bytes of the tape, 4 straws of all BUNDLES that are left.");
        PlaitBench x = bench();
        countsAre(x, 0, 0, 0, 0, 0);
        x.bundle(0, 1, 10);
        countsAre(x, 1, 0, 0, 0, 10);
        x.bundle(0, 2, 5000);
        countsAre(x, 2, 0, 0, 0, 5010);
        x.score(0, 1, 1);
        countsAre(x, 2, 1, 0, 0, 5007);
        x.hat(1, 1);
        countsAre(x, 2, 1, 1, 0, 5007);
        Check.feed(x, "1+2-");
        countsAre(x, 2, 1, 1, 20, 5007);
        x.feed(0, 0, 0, 0, 0);
        countsAre(x, 2, 1, 1, 40, 5007);
        x.pattern(1, 3, 4);
        countsAre(x, 2, 1, 1, 0, 5007);
        x.score(0, 1, 1);
        x.score(0, 1, 1);
        x.score(0, 1, 1);
        countsAre(x, 2, 3, 1, 0, 5001);
        Sentences.quote(20, "NoSuchElementException: another what.");
        for (int what : new int[] {-1, 5, 6, BIG, SMALL}) {
            Check.none("count(" + what + ")", () -> x.count(what));
        }
    }

    private static void countsAre(PlaitBench x, int... due) {
        for (int what = 0; what < due.length; what++) {
            Check.same("count(" + what + ")", due[what], x.count(what));
        }
    }
}
