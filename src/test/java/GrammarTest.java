/** All texts of a few signs, and many of a few words, read by the class and by the Model. */
public final class GrammarTest {
    private static final int TEXTS_OF_ONE_OBJECT = 70;

    private PlaitBench bench;
    private Model model;
    private int texts = 0;

    private GrammarTest() {
    }

    public static void main(String[] args) {
        GrammarTest test = new GrammarTest();
        String[] signs = {"0", "1", "3", "+", "-", "(", ")", "p", "u", "t", "x", " "};
        test.compareAll("", signs, 5);
        String[] items = {"2+", "1-", "51", "50(", "7(", "u(", "m(", ")", "p1", "p2", "p3", "p08"};
        test.compareAll("", items, 5);
        test.compareAll("50(5(1+)) 48(2-)", items, 4);
        test.compareAll("1(u(m(1(t(1(1(", items, 4);
        Check.end("GrammarTest");
    }

    private void compareAll(String ahead, String[] words, int most) {
        compare(ahead);
        for (int word = 0; word < words.length && most > 0; word++) {
            compareAll(ahead + words[word], words, most - 1);
        }
    }

    private void begin() {
        bench = new PlaitBench();
        model = new Model();
        take(1, 3, "1+2-");
        take(3, 4, "3+");
    }

    private int take(int k, int straws, String text) {
        Check.feed(bench, text);
        for (int from = 0; from < text.length(); from += 20) {
            model.feed(wordsAt(text, from));
        }
        int fault = bench.pattern(k, straws, text.length());
        Check.same("pattern() of '" + text + "'", model.pattern(k, straws, text.length()), fault);
        return fault;
    }

    private static int[] wordsAt(String text, int from) {
        int[] words = new int[5];
        for (int j = 0; j < 20; j++) {
            int sign = from + j < text.length() ? text.charAt(from + j) : ' ';
            words[j / 4] = words[j / 4] << 8 | sign;
        }
        return words;
    }

    private void compare(String text) {
        if (texts % TEXTS_OF_ONE_OBJECT == 0) {
            begin();
        }
        texts++;
        int fault = take(5, 3, text);
        Check.same("the place of '" + text + "'", model.fault(1), bench.fault(1));
        if (fault == 0) {
            Check.same("the size of '" + text + "'", model.size(5), bench.size(5));
            int last = model.size(5) - 1;
            if (last >= 0) {
                Check.same("the last of '" + text + "'", model.crossing(5, last), bench.crossing(5, last));
            }
        }
    }
}
