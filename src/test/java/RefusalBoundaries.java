import java.util.function.Consumer;

/**
 * A call that is refused, and a call that only asks, changes nothing: of two benches made alike one
 * gets the call, and both are told in full afterwards.
 */
final class RefusalBoundaries {
    private static final int BIG = Integer.MAX_VALUE;
    private static final int SMALL = Integer.MIN_VALUE;
    private static final int[] OUTSIDE = {-1, 8, 60, BIG, SMALL};

    private static final String OF_PATTERN = "IllegalArgumentException: no such number, STRAWS, the tape has not so many,"
            + " n below 0 (the tape stays).";
    private static final String OF_SCORE = "NONE, and nothing changes: there are 60, no such PATTERN, it doesn't HOLD, times"
            + " or the width are not as told, or there are too few straws.";
    private static final String OF_HAT = "NONE, and nothing changes: there are 60, R or the width are not as told, or there is"
            + " too little.";

    private RefusalBoundaries() {
    }

    static void run() {
        patternsRefused();
        faultsChangeNoPattern();
        bundlesRefused();
        scoresRefused();
        hatsRefused();
        questionsRefused();
        questionsAnswered();
    }

    /** Some of everything, a fault of the latest text, and 20 bytes on the tape. */
    private static PlaitBench furnished() {
        PlaitBench x = new PlaitBench();
        Check.pattern(x, 0, 3, "1+2-");
        Check.pattern(x, 1, 4, "1+2+3-");
        Check.pattern(x, 6, 2, "");
        x.bundle(5, 2, 4);
        x.bundle(6, 3, 7);
        x.bundle(31, 2, 9);
        x.score(0, 10, 2);
        x.score(0, 2, 3);
        x.hat(2, 4);
        Check.pattern(x, 0, 3, "1+2+3+");
        Check.feed(x, "2-1+p0");
        return x;
    }

    private static String told(PlaitBench x) {
        StringBuilder told = new StringBuilder();
        tell(told, "fault", () -> x.fault(0));
        tell(told, "place", () -> x.fault(1));
        return told + toldButForFaults(x);
    }

    private static String toldButForFaults(PlaitBench x) {
        StringBuilder told = new StringBuilder();
        for (int k = 0; k < 8; k++) {
            tellPattern(told, x, k);
        }
        for (int what = 0; what < 5; what++) {
            int asked = what;
            tell(told, "count", () -> x.count(asked));
            tell(told, "left", () -> x.left(asked));
            for (int number = 0; number < 3; number++) {
                int one = number;
                tell(told, "scored", () -> x.scored(one, asked));
                tell(told, "sewn", () -> x.sewn(one, asked));
            }
        }
        // Last of all, what the tape has.
        tell(told, "pattern", () -> x.pattern(7, 3, x.count(3)));
        for (int j = 0; j < 5; j++) {
            int asked = j;
            tell(told, "of the tape", () -> x.crossing(7, asked));
        }
        return told.toString();
    }

    private static void tellPattern(StringBuilder told, PlaitBench x, int k) {
        tell(told, "size of " + k, () -> x.size(k));
        if (x.size(k) == PlaitBench.NONE) {
            return;
        }
        tell(told, "untwined", () -> x.untwined(k));
        for (int what = 0; what < 7; what++) {
            int asked = what;
            tell(told, "about", () -> x.about(k, asked));
            tell(told, "crossing", () -> x.crossing(k, asked));
            tell(told, "factor", () -> x.factor(k, asked));
            tell(told, "goes", () -> x.goes(k, asked));
            tell(told, "twine", () -> x.twine(k, 1, asked));
            tell(told, "use", () -> x.use(k, asked));
        }
    }

    private static void tell(StringBuilder told, String what, Check.Call call) {
        told.append(what).append(' ').append(Check.outcome(call)).append('\n');
    }

    private static void changesNothing(String what, Consumer<PlaitBench> call) {
        PlaitBench called = furnished();
        call.accept(called);
        same("after " + what, told(furnished()), told(called));
    }

    /** Says only the first line that is not as due. */
    private static void same(String what, String due, String got) {
        String[] dueLines = due.split("\n");
        String[] gotLines = got.split("\n");
        Check.same(what + ", lines", dueLines.length, gotLines.length);
        int at = 0;
        while (at < dueLines.length - 1 && at < gotLines.length - 1 && dueLines[at].equals(gotLines[at])) {
            at++;
        }
        Check.same(what + ", line " + at, dueLines[at], gotLines[at]);
    }

    private static void patternsRefused() {
        Sentences.quote(3, OF_PATTERN);
        for (int outside : OUTSIDE) {
            changesNothing("pattern " + outside, x -> Check.illegal("it", () -> x.pattern(outside, 3, 6)));
            changesNothing("straws " + outside, x -> Check.illegal("it", () -> x.pattern(0, outside, 6)));
        }
        for (int n : new int[] {21, 800, 801, BIG, -1, SMALL}) {
            changesNothing("bytes " + n, x -> Check.illegal("it", () -> x.pattern(0, 3, n)));
        }
        changesNothing("1 straw", x -> Check.illegal("it", () -> x.pattern(0, 1, 6)));
    }

    private static void faultsChangeNoPattern() {
        Sentences.quote(3, "or the FAULT (nothing changes then).");
        for (String text : new String[] {"1+x", "1+3+", "1+p5", "1+p6", "2(1+2+", "1(1(1(1(1(1(1(1(1(", "50(50(1+))"}) {
            PlaitBench faulty = furnished();
            PlaitBench plain = furnished();
            // A text empties the tape, with a fault too.
            faulty.pattern(7, 3, 0);
            plain.pattern(7, 3, 0);
            Check.holds("a fault of " + text, Check.pattern(faulty, 0, 3, text) > 0);
            same("after '" + text + "'", toldButForFaults(plain), toldButForFaults(faulty));
        }
    }

    private static void bundlesRefused() {
        Sentences.quote(14, "A BUNDLE: its number. NONE: there are 40, or a number is not as told.");
        for (int outside : new int[] {-1, 5001, BIG, SMALL}) {
            changesNothing("field " + outside, x -> Check.same("it", -1, x.bundle(outside, 1, 1)));
            changesNothing("width " + outside, x -> Check.same("it", -1, x.bundle(1, outside, 1)));
            changesNothing("straws " + outside, x -> Check.same("it", -1, x.bundle(1, 1, outside)));
        }
        changesNothing("field 32", x -> Check.same("it", -1, x.bundle(32, 1, 1)));
        changesNothing("width 0", x -> Check.same("it", -1, x.bundle(1, 0, 1)));
        changesNothing("width 10", x -> Check.same("it", -1, x.bundle(1, 10, 1)));
        changesNothing("no straws", x -> Check.same("it", -1, x.bundle(1, 1, 0)));
    }

    private static void scoresRefused() {
        Sentences.quote(16, OF_SCORE);
        for (int outside : new int[] {-1, 201, BIG, SMALL}) {
            changesNothing("pattern " + outside, x -> Check.same("it", -1, x.score(outside, 1, 2)));
            changesNothing("times " + outside, x -> Check.same("it", -1, x.score(0, outside, 2)));
            changesNothing("width " + outside, x -> Check.same("it", -1, x.score(0, 1, outside)));
        }
        changesNothing("no pattern yet", x -> Check.same("it", -1, x.score(2, 1, 2)));
        changesNothing("one that doesn't hold", x -> Check.same("it", -1, x.score(1, 1, 2)));
        changesNothing("0 times", x -> Check.same("it", -1, x.score(0, 0, 2)));
        changesNothing("width 0", x -> Check.same("it", -1, x.score(0, 1, 0)));
        changesNothing("width 10", x -> Check.same("it", -1, x.score(0, 1, 10)));
        // 1 and 9 are left of width 2: 64 times take 9 or 12 of them, 22 times take 6.
        changesNothing("too few in two bundles", x -> Check.same("it", -1, x.score(0, 80, 2)));
        changesNothing("too few in one bundle", x -> Check.same("it", -1, x.score(0, 22, 3)));
        changesNothing("none of the width", x -> Check.same("it", -1, x.score(0, 1, 4)));
    }

    private static void hatsRefused() {
        Sentences.quote(18, OF_HAT);
        for (int outside : new int[] {-1, 0, 10, BIG, SMALL}) {
            changesNothing("width " + outside, x -> Check.same("it", -1, x.hat(outside, 10)));
        }
        for (int r : new int[] {-2, 0, 1, 3, 401, 402, BIG, SMALL}) {
            changesNothing("radius " + r, x -> Check.same("it", -1, x.hat(2, r)));
        }
        changesNothing("too little", x -> Check.same("it", -1, x.hat(2, 6)));
        changesNothing("too little of another", x -> Check.same("it", -1, x.hat(3, 3)));
        changesNothing("none of the width", x -> Check.same("it", -1, x.hat(4, 4)));
    }

    private static void questionsRefused() {
        Sentences.quote(7, "NoSuchElementException: no such PATTERN, what.");
        for (int outside : OUTSIDE) {
            changesNothing("questions of " + outside, x -> {
                Check.none("fault", () -> x.fault(outside));
                Check.same("size", -1, x.size(outside));
                Check.none("crossing", () -> x.crossing(0, outside));
                Check.none("crossing of none", () -> x.crossing(outside, 0));
                Check.none("about", () -> x.about(0, outside));
                Check.none("about of none", () -> x.about(outside, 0));
                Check.none("factor", () -> x.factor(0, outside));
                Check.none("factor of none", () -> x.factor(outside, 0));
                Check.none("alike", () -> x.alike(0, outside) ? 1 : 0);
                Check.none("untwined", () -> x.untwined(outside));
                Check.none("goes", () -> x.goes(0, outside));
                Check.none("twine", () -> x.twine(0, 1, outside));
                Check.none("use", () -> x.use(0, outside));
                Check.none("left", () -> x.left(outside));
                Check.none("scored", () -> x.scored(outside, 0));
                Check.none("scored of what", () -> x.scored(0, outside));
                Check.none("sewn", () -> x.sewn(outside, 0));
                Check.none("sewn of what", () -> x.sewn(0, outside));
                Check.none("count", () -> x.count(outside));
            });
        }
    }

    private static void questionsAnswered() {
        Sentences.quote(7, "Of a PATTERN: 0 STRAWS, 1 HOME, 2 RINGS, 3 whether it HOLDS (1), 4 LEVELS, 5 POWER of its FORM, 6"
                + " how many FACTORS.");
        changesNothing("questions with an answer", x -> {
            Check.same("fault", 2, x.fault(0));
            Check.same("size", 2, x.size(0));
            Check.same("crossing", -2, x.crossing(0, 1));
            Check.same("factors", 2, x.about(0, 6));
            Check.same("factor", 153, x.factor(0, 0));
            Check.holds("alike", !x.alike(0, 1));
            Check.same("untwined", -1, x.untwined(0));
            Check.same("goes", 3, x.goes(0, 1));
            Check.same("twine", 0, x.twine(0, 1, 2));
            Check.same("use", 5, x.use(0, 1));
            Check.same("left", 1, x.left(0));
            Check.same("scored", 40, x.scored(0, 0));
            Check.same("sewn", 26, x.sewn(0, 0));
            Check.same("count", 20, x.count(3));
        });
    }
}
