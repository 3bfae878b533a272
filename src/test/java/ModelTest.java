import java.util.Random;

/** Random runs of calls, each answered by the class and by the Model. */
public final class ModelTest {
    private static final int RUNS = 400;
    /** An object is used for at most 512 calls, and a text takes up to 44 of them. */
    private static final int CALLS = 512 - 44;

    private final Random random;
    private final PlaitBench bench = new PlaitBench();
    private final Model model = new Model();
    private final StringBuilder told = new StringBuilder();
    private final int mainStraws;
    private int calls = 0;
    private boolean wrong = false;

    private ModelTest(long seed) {
        random = new Random(seed);
        mainStraws = number(2, 7);
    }

    public static void main(String[] args) {
        for (int run = 0; run < RUNS; run++) {
            new ModelTest(run).run();
        }
        Check.end("ModelTest");
    }

    private void run() {
        int most = 20 + random.nextInt(CALLS - 20);
        while (calls < most && !wrong) {
            callSome();
        }
    }

    private void callSome() {
        int kind = random.nextInt(100);
        if (kind < 22) {
            type();
        } else if (kind < 60) {
            askPattern();
        } else if (kind < 96) {
            callStock();
        } else {
            callOddly();
        }
    }

    private void both(String call, Check.Call one, Check.Call other) {
        calls++;
        String got = Check.outcome(one);
        String due = Check.outcome(other);
        told.append(call).append(" -> ").append(due).append('\n');
        wrong = !got.equals(due);
        if (wrong) {
            System.out.println(told + call + " answered " + got);
        }
        Check.holds(call, !wrong);
    }

    private int number(int least, int most) {
        return least + random.nextInt(most - least + 1);
    }

    private void feed(int a, int b, int c, int d, int e) {
        both("feed(" + a + ", " + b + ", " + c + ", " + d + ", " + e + ")",
                () -> bench.feed(a, b, c, d, e), () -> model.feed(a, b, c, d, e));
    }

    private void pattern(int k, int straws, int n) {
        both("pattern(" + k + ", " + straws + ", " + n + ")",
                () -> bench.pattern(k, straws, n), () -> model.pattern(k, straws, n));
        both("fault(0)", () -> bench.fault(0), () -> model.fault(0));
        both("fault(1)", () -> bench.fault(1), () -> model.fault(1));
        both("size(" + k + ")", () -> bench.size(k), () -> model.size(k));
    }

    private void type() {
        int straws = random.nextInt(8) > 0 ? mainStraws : number(2, 7);
        StringBuilder text = new StringBuilder();
        boolean inTurn = random.nextInt(3) > 0;
        if (inTurn) {
            for (int i = 1; i < straws; i++) {
                text.append(i).append(i % 2 == 1 ? '+' : '-');
            }
        }
        addItems(text, straws, 0, inTurn);
        if (random.nextInt(4) == 0) {
            spoil(text);
        }
        if (text.length() > 800) {
            text.setLength(800);
        }
        told.append("feeding ").append(text).append('\n');
        int length = text.length();
        while (text.length() % 20 != 0) {
            text.append(' ');
        }
        for (int from = 0; from < text.length() && !wrong; from += 20) {
            feed(word(text, from), word(text, from + 4), word(text, from + 8), word(text, from + 12),
                    word(text, from + 16));
        }
        pattern(number(0, 7), straws, length);
    }

    private static int word(StringBuilder text, int from) {
        return text.charAt(from) << 24 | text.charAt(from + 1) << 16 | text.charAt(from + 2) << 8
                | text.charAt(from + 3);
    }

    private void addItems(StringBuilder text, int straws, int depth, boolean inTurn) {
        int items = depth == 0 ? number(0, 12) : number(0, 4);
        for (int item = 0; item < items && text.length() < 600; item++) {
            addBlanks(text);
            int kind = random.nextInt(20);
            if (kind < (inTurn ? 17 : 13) || depth > 9) {
                int i = number(1, straws - 1);
                boolean over = inTurn ? i % 2 == 1 : random.nextBoolean();
                text.append(i);
                addBlanks(text);
                text.append(over ? '+' : '-');
            } else if (kind < (inTurn ? 18 : 15)) {
                text.append('p').append(random.nextInt(12) == 0 ? "0" : "").append(patternOf(straws));
            } else if (inTurn || kind < 17) {
                text.append(random.nextInt(8) == 0 ? number(0, 51) : number(1, 5));
                addBracket(text, straws, depth, inTurn);
            } else {
                text.append("umt".charAt(kind - 17));
                addBracket(text, straws, depth, inTurn);
            }
        }
    }

    private int knownPattern() {
        int k = number(0, 7);
        for (int time = 0; time < 20 && model.size(k) < 0; time++) {
            k = number(0, 7);
        }
        return k;
    }

    private int patternOf(int straws) {
        int k = knownPattern();
        for (int time = 0; time < 10 && model.size(k) >= 0 && model.about(k, 0) != straws; time++) {
            k = knownPattern();
        }
        return random.nextInt(20) == 0 ? number(0, 9) : k;
    }

    private void addBracket(StringBuilder text, int straws, int depth, boolean inTurn) {
        addBlanks(text);
        text.append('(');
        addItems(text, straws, depth + 1, inTurn);
        addBlanks(text);
        text.append(')');
    }

    private void addBlanks(StringBuilder text) {
        if (random.nextInt(6) == 0) {
            text.append(random.nextBoolean() ? ' ' : '\n');
        }
    }

    private void spoil(StringBuilder text) {
        String signs = "0123456789+-()pumt \nx1(((())))";
        for (int time = number(1, 3); time > 0; time--) {
            int at = random.nextInt(text.length() + 1);
            char sign = random.nextInt(10) == 0 ? (char) random.nextInt(256)
                    : signs.charAt(random.nextInt(signs.length()));
            if (at < text.length() && random.nextBoolean()) {
                text.setCharAt(at, sign);
            } else if (at < text.length() && random.nextBoolean()) {
                text.deleteCharAt(at);
            } else {
                text.insert(at, sign);
            }
        }
    }

    private void askPattern() {
        int k = random.nextInt(20) == 0 ? number(-2, 9) : knownPattern();
        int j = random.nextInt(10) == 0 ? number(-1, 300) : number(0, 8);
        int a = random.nextInt(10) == 0 ? number(-1, 8) : number(0, mainStraws);
        int b = random.nextInt(10) == 0 ? number(-1, 8) : number(0, mainStraws);
        int l = random.nextInt(20) == 0 ? number(-2, 9) : knownPattern();
        int what = random.nextInt(20) == 0 ? number(-1, 8) : number(0, 6);
        switch (random.nextInt(9)) {
            case 0 -> both("crossing(" + k + ", " + j + ")", () -> bench.crossing(k, j), () -> model.crossing(k, j));
            case 1, 2 -> both("about(" + k + ", " + what + ")",
                    () -> bench.about(k, what), () -> model.about(k, what));
            case 3 -> both("factor(" + k + ", " + j + ")", () -> bench.factor(k, j), () -> model.factor(k, j));
            case 4 -> both("alike(" + k + ", " + l + ")", () -> bench.alike(k, l) ? 1 : 0, () -> model.alike(k, l));
            case 5 -> both("untwined(" + k + ")", () -> bench.untwined(k), () -> model.untwined(k));
            case 6 -> both("goes(" + k + ", " + a + ")", () -> bench.goes(k, a), () -> model.goes(k, a));
            case 7 -> both("twine(" + k + ", " + a + ", " + b + ")",
                    () -> bench.twine(k, a, b), () -> model.twine(k, a, b));
            default -> both("use(" + k + ", " + a + ")", () -> bench.use(k, a), () -> model.use(k, a));
        }
    }

    private void callStock() {
        int width = random.nextInt(8) > 0 ? number(1, 2) : number(0, 10);
        int what = random.nextInt(8) > 0 ? number(0, 3) : number(-1, 5);
        int bundle = someOf(model.count(0));
        int score = someOf(model.count(1));
        int hat = someOf(model.count(2));
        switch (random.nextInt(10)) {
            case 0 -> bundle(number(-1, 32), width, random.nextBoolean() ? number(0, 60) : number(0, 5001));
            case 1, 2 -> score(knownPattern(), random.nextBoolean() ? number(0, 10) : number(0, 201), width);
            case 3, 4 -> hat(width, random.nextBoolean() ? width * number(1, 6) : number(0, 401));
            case 5, 6 -> both("scored(" + score + ", " + what + ")",
                    () -> bench.scored(score, what), () -> model.scored(score, what));
            case 7 -> both("sewn(" + hat + ", " + what + ")",
                    () -> bench.sewn(hat, what), () -> model.sewn(hat, what));
            case 8 -> both("count(" + what + ")", () -> bench.count(what), () -> model.count(what));
            default -> both("left(" + bundle + ")", () -> bench.left(bundle), () -> model.left(bundle));
        }
        both("count(4)", () -> bench.count(4), () -> model.count(4));
    }

    /** A number from 0 on, now and then one that is just outside. */
    private int someOf(int count) {
        return random.nextInt(10) > 0 && count > 0 ? random.nextInt(count) : number(-1, count);
    }

    private void bundle(int field, int width, int straws) {
        both("bundle(" + field + ", " + width + ", " + straws + ")",
                () -> bench.bundle(field, width, straws), () -> model.bundle(field, width, straws));
    }

    private void score(int k, int times, int width) {
        both("score(" + k + ", " + times + ", " + width + ")",
                () -> bench.score(k, times, width), () -> model.score(k, times, width));
    }

    private void hat(int width, int r) {
        both("hat(" + width + ", " + r + ")", () -> bench.hat(width, r), () -> model.hat(width, r));
    }

    private int odd() {
        int[] numbers = {Integer.MIN_VALUE, Integer.MAX_VALUE, -1, 0, 8, 31, 1 << 30, random.nextInt()};
        return numbers[random.nextInt(numbers.length)];
    }

    private void callOddly() {
        int a = odd();
        int b = odd();
        int c = odd();
        switch (random.nextInt(16)) {
            case 0 -> feed(a, b, c, odd(), odd());
            case 1 -> both("size(" + a + ")", () -> bench.size(a), () -> model.size(a));
            case 2 -> both("crossing", () -> bench.crossing(a, b), () -> model.crossing(a, b));
            case 3 -> both("about", () -> bench.about(a, b), () -> model.about(a, b));
            case 4 -> both("factor", () -> bench.factor(a, b), () -> model.factor(a, b));
            case 5 -> both("alike", () -> bench.alike(a, b) ? 1 : 0, () -> model.alike(a, b));
            case 6 -> both("untwined", () -> bench.untwined(a), () -> model.untwined(a));
            case 7 -> both("goes", () -> bench.goes(a, b), () -> model.goes(a, b));
            case 8 -> both("twine", () -> bench.twine(a, b, c), () -> model.twine(a, b, c));
            case 9 -> both("use", () -> bench.use(a, b), () -> model.use(a, b));
            case 10 -> both("fault", () -> bench.fault(a), () -> model.fault(a));
            case 11 -> both("left", () -> bench.left(a), () -> model.left(a));
            case 12 -> score(a, b, c);
            case 13 -> bundle(a, b, c);
            case 14 -> hat(a, b);
            default -> pattern(a, b, c);
        }
    }
}
