/** Counts the answers that are not as due; each test ends with exit code 1 if there was one. */
final class Check {
    interface Call {
        int run();
    }

    private static int checked = 0;
    private static int wrong = 0;
    private static String under = "";

    private Check() {
    }

    /** What stands ahead of each message from now on. */
    static void under(String heading) {
        under = heading;
    }

    static int checked() {
        return checked;
    }

    static void same(String what, long due, long got) {
        same(what, Long.toString(due), Long.toString(got));
    }

    static void same(String what, String due, String got) {
        checked++;
        if (!due.equals(got)) {
            wrong++;
            System.out.println(under + what + " answered " + got + ", due is " + due);
        }
    }

    static void holds(String what, boolean got) {
        same(what, 1, got ? 1 : 0);
    }

    static void none(String what, Call call) {
        thrown(what, "NoSuchElementException", call);
    }

    static void illegal(String what, Call call) {
        thrown(what, "IllegalArgumentException", call);
    }

    private static void thrown(String what, String due, Call call) {
        same(what, due, outcome(call));
    }

    /** The answer as a text, or the plain name of what was thrown. */
    static String outcome(Call call) {
        try {
            return Integer.toString(call.run());
        } catch (RuntimeException thrown) {
            return thrown.getClass().getSimpleName();
        }
    }

    static void end(String test) {
        System.out.println(test + ": " + checked + " checked, " + wrong + " wrong");
        if (wrong != 0 || checked == 0) {
            System.exit(1);
        }
    }

    /** Feeds a text, with blanks behind it up to a multiple of twenty. */
    static void feed(PlaitBench x, String text) {
        StringBuilder padded = new StringBuilder(text);
        while (padded.length() % 20 != 0) {
            padded.append(' ');
        }
        for (int from = 0; from < padded.length(); from += 20) {
            x.feed(number(padded, from), number(padded, from + 4), number(padded, from + 8),
                    number(padded, from + 12), number(padded, from + 16));
        }
    }

    /** Feeds a text and makes it a pattern: the fault. */
    static int pattern(PlaitBench x, int k, int straws, String text) {
        feed(x, text);
        return x.pattern(k, straws, text.length());
    }

    private static int number(CharSequence text, int from) {
        return text.charAt(from) << 24 | text.charAt(from + 1) << 16
                | text.charAt(from + 2) << 8 | text.charAt(from + 3);
    }
}
