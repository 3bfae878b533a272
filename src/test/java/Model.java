import java.util.ArrayList;
import java.util.Arrays;
import java.util.Collections;
import java.util.List;
import java.util.NoSuchElementException;

/**
 * The document once more, word by word and without any care for speed: each answer is made anew from
 * the rows, every straw and every length is taken one by one. It is what ModelTest compares with.
 */
final class Model {
    private static final class Fault extends RuntimeException {
        private static final long serialVersionUID = 1L;
        final int kind;
        final int place;

        Fault(int kind, int place) {
            this.kind = kind;
            this.place = place;
        }
    }

    private record Token(int place, String word) {
    }

    private record Plait(int straws, List<Integer> row) {
    }

    private record Told(int power, List<String> factors) {
    }

    private static final class Stock {
        int width;
        int whole;
        int left;
        int fields;
        int taken;
    }

    private record Spiral(int length, int turns, int fields, int scores) {
    }

    private final List<Integer> tape = new ArrayList<>();
    private final Plait[] plaits = new Plait[8];
    private final List<Stock> bundles = new ArrayList<>();
    private final List<Stock> scores = new ArrayList<>();
    private final List<Spiral> hats = new ArrayList<>();
    private int faultKind = 0;
    private int faultPlace = -1;

    int feed(int... numbers) {
        if (tape.size() + 20 > 800) {
            return -1;
        }
        for (int number : numbers) {
            tape.addAll(List.of(number >>> 24, number >>> 16 & 255, number >>> 8 & 255, number & 255));
        }
        return tape.size();
    }

    int pattern(int k, int straws, int n) {
        if (k < 0 || k > 7 || straws < 2 || straws > 7 || n < 0 || n > tape.size()) {
            throw new IllegalArgumentException();
        }
        List<Integer> text = new ArrayList<>(tape.subList(0, n));
        tape.clear();
        faultKind = 0;
        faultPlace = -1;
        try {
            plaits[k] = new Plait(straws, new Parser(text, straws).parse());
        } catch (Fault fault) {
            faultKind = fault.kind;
            faultPlace = fault.place;
        }
        return faultKind;
    }

    private final class Parser {
        private final List<Token> tokens = new ArrayList<>();
        private final int straws;
        private int next = 0;

        Parser(List<Integer> text, int straws) {
            this.straws = straws;
            StringBuilder all = new StringBuilder();
            for (int sign : text) {
                all.append((char) sign);
            }
            int at = 0;
            while (at < all.length()) {
                int from = at;
                while (at < all.length() && "0123456789".indexOf(all.charAt(at)) >= 0) {
                    at++;
                }
                if (at == from) {
                    at++;
                }
                String word = all.substring(from, at);
                if (!word.equals(" ") && !word.equals("\n")) {
                    tokens.add(new Token(from, word));
                }
            }
            tokens.add(new Token(text.size(), ""));
        }

        List<Integer> parse() {
            List<Integer> row = sequence(0, 0);
            if (!word().isEmpty()) {
                throw new Fault(1, place());
            }
            return row;
        }

        private String word() {
            return tokens.get(next).word;
        }

        private int place() {
            return tokens.get(next).place;
        }

        private boolean isNumber() {
            return !word().isEmpty() && "0123456789".indexOf(word().charAt(0)) >= 0;
        }

        private void isTooLong(int ahead, int length, int place) {
            if (ahead + length > 300) {
                throw new Fault(2, place);
            }
        }

        /** ahead: how many crossings the row has ahead of this sequence. */
        private List<Integer> sequence(int depth, int ahead) {
            List<Integer> row = new ArrayList<>();
            while (!word().isEmpty() && !word().equals(")")) {
                if (isNumber()) {
                    numbered(row, depth, ahead);
                } else if (word().equals("p")) {
                    next++;
                    copied(row, ahead);
                } else if (word().equals("u") || word().equals("m") || word().equals("t")) {
                    String letter = word();
                    next++;
                    List<Integer> inner = bracketed(depth, ahead + row.size());
                    next++;
                    row.addAll(changed(letter, inner));
                } else {
                    throw new Fault(1, place());
                }
            }
            return row;
        }

        private void numbered(List<Integer> row, int depth, int ahead) {
            int numberPlace = place();
            java.math.BigInteger value = new java.math.BigInteger(word());
            int small = value.bitLength() > 20 ? 99999 : value.intValue();
            next++;
            if (word().equals("+") || word().equals("-")) {
                if (small < 1 || small > straws - 1) {
                    throw new Fault(2, numberPlace);
                }
                isTooLong(ahead, row.size() + 1, place());
                row.add(word().equals("+") ? small : -small);
                next++;
                return;
            }
            if (word().equals("(") && (small < 1 || small > 50)) {
                throw new Fault(2, numberPlace);
            }
            List<Integer> inner = bracketed(depth, ahead + row.size());
            isTooLong(ahead, row.size() + small * inner.size(), place());
            next++;
            for (int made = 0; made < small; made++) {
                row.addAll(inner);
            }
        }

        /** Stops at the bracket's end, which may be a fault of what is around it. */
        private List<Integer> bracketed(int depth, int ahead) {
            if (!word().equals("(")) {
                throw new Fault(1, place());
            }
            if (depth == 8) {
                throw new Fault(2, place());
            }
            next++;
            List<Integer> inner = sequence(depth + 1, ahead);
            if (!word().equals(")")) {
                throw new Fault(1, place());
            }
            return inner;
        }

        private void copied(List<Integer> row, int ahead) {
            if (!isNumber()) {
                throw new Fault(1, place());
            }
            if (word().length() > 2 || Integer.parseInt(word()) > 7) {
                throw new Fault(2, place());
            }
            Plait found = plaits[Integer.parseInt(word())];
            if (found == null) {
                throw new Fault(3, place());
            }
            isTooLong(ahead, row.size() + found.row.size(), place());
            if (found.straws != straws) {
                throw new Fault(3, place());
            }
            row.addAll(found.row);
            next++;
        }

        private List<Integer> changed(String letter, List<Integer> inner) {
            List<Integer> row = new ArrayList<>();
            for (int crossing : inner) {
                int turned = straws - Math.abs(crossing);
                row.add(letter.equals("t") ? (crossing > 0 ? turned : -turned) : -crossing);
            }
            if (letter.equals("u")) {
                Collections.reverse(row);
            }
            return row;
        }
    }

    int fault(int what) {
        return pick(what, faultKind, faultPlace);
    }

    private static int pick(int what, int... answers) {
        if (what < 0 || what >= answers.length) {
            throw new NoSuchElementException();
        }
        return answers[what];
    }

    int size(int k) {
        return k < 0 || k > 7 || plaits[k] == null ? -1 : plaits[k].row.size();
    }

    private Plait known(int k) {
        if (size(k) < 0) {
            throw new NoSuchElementException();
        }
        return plaits[k];
    }

    int crossing(int k, int j) {
        List<Integer> row = known(k).row;
        if (j < 0 || j >= row.size()) {
            throw new NoSuchElementException();
        }
        return row.get(j);
    }

    int about(int k, int what) {
        Plait plait = known(k);
        if (what == 5 || what == 6) {
            Told told = told(plait.straws, plait.row);
            return what == 5 ? told.power : told.factors.size();
        }
        return pick(what, plait.straws, home(plait), rings(plait), holds(plait) ? 1 : 0, levels(plait));
    }

    int factor(int k, int j) {
        Plait plait = known(k);
        List<String> factors = told(plait.straws, plait.row).factors;
        if (j < 0 || j >= factors.size()) {
            throw new NoSuchElementException();
        }
        int code = 0;
        for (int place = plait.straws - 1; place >= 0; place--) {
            code = code * 8 + (factors.get(j).charAt(place) - '0');
        }
        return code;
    }

    int alike(int k, int l) {
        Plait one = known(k);
        Plait other = known(l);
        return one.straws == other.straws
                && told(one.straws, one.row).equals(told(other.straws, other.row)) ? 1 : 0;
    }

    int untwined(int k) {
        Plait plait = known(k);
        List<Integer> row = new ArrayList<>();
        for (int m = 1; m <= 12; m++) {
            row.addAll(plait.row);
            if (row.size() > 600) {
                return -1;
            }
            // Only rows that bring each straw home can be alike an even power of D.
            if (Arrays.equals(made(plait, m), made(plait, 0))) {
                Told told = told(plait.straws, row);
                if (told.factors.isEmpty() && told.power % 2 == 0) {
                    return m;
                }
            }
        }
        return -1;
    }

    int goes(int k, int place) {
        Plait plait = known(k);
        onPlace(plait, place);
        return placeOf(made(plait, 1), place);
    }

    private static void onPlace(Plait plait, int place) {
        if (place < 1 || place > plait.straws) {
            throw new NoSuchElementException();
        }
    }

    private static int placeOf(int[] lying, int straw) {
        for (int place = 1; place < lying.length; place++) {
            if (lying[place] == straw) {
                return place;
            }
        }
        throw new IllegalStateException();
    }

    /** Which straw lies at each place after so many times. */
    private static int[] made(Plait plait, int times) {
        int[] lying = new int[plait.straws + 1];
        for (int place = 1; place <= plait.straws; place++) {
            lying[place] = place;
        }
        for (int time = 0; time < times; time++) {
            for (int crossing : plait.row) {
                change(lying, crossing);
            }
        }
        return lying;
    }

    private static void change(int[] lying, int crossing) {
        int i = Math.abs(crossing);
        int kept = lying[i];
        lying[i] = lying[i + 1];
        lying[i + 1] = kept;
    }

    private static int home(Plait plait) {
        int times = 1;
        while (!Arrays.equals(made(plait, times), made(plait, 0))) {
            times++;
        }
        return times;
    }

    private static int rings(Plait plait) {
        int[] after = made(plait, 1);
        int rings = 0;
        for (int place = 1; place <= plait.straws; place++) {
            int least = place;
            int at = after[place];
            while (at != place) {
                least = Math.min(least, at);
                at = after[at];
            }
            rings += least == place ? 1 : 0;
        }
        return rings;
    }

    private static boolean holds(Plait plait) {
        for (int number = 1; number < plait.straws; number++) {
            if (!plait.row.contains(number) && !plait.row.contains(-number)) {
                return false;
            }
        }
        for (int straw = 1; straw <= plait.straws; straw++) {
            String sides = sidesOf(plait, straw, 2 * home(plait));
            if (sides.contains("oo") || sides.contains("uu")) {
                return false;
            }
        }
        return true;
    }

    /** o where the straw lies over, u where it lies under. */
    private static String sidesOf(Plait plait, int straw, int times) {
        StringBuilder sides = new StringBuilder();
        int[] lying = made(plait, 0);
        for (int time = 0; time < times; time++) {
            for (int crossing : plait.row) {
                int i = Math.abs(crossing);
                if (lying[i] == straw) {
                    sides.append(crossing > 0 ? 'o' : 'u');
                } else if (lying[i + 1] == straw) {
                    sides.append(crossing > 0 ? 'u' : 'o');
                }
                change(lying, crossing);
            }
        }
        return sides.toString();
    }

    private static int levels(Plait plait) {
        int most = 0;
        int[] level = new int[plait.row.size()];
        for (int j = 0; j < level.length; j++) {
            level[j] = 1;
            for (int ahead = 0; ahead < j; ahead++) {
                int apart = Math.abs(Math.abs(plait.row.get(ahead)) - Math.abs(plait.row.get(j)));
                if (apart < 2 && level[ahead] >= level[j]) {
                    level[j] = level[ahead] + 1;
                }
            }
            most = Math.max(most, level[j]);
        }
        return most;
    }

    int twine(int k, int a, int b) {
        Plait plait = known(k);
        onPlace(plait, a);
        onPlace(plait, b);
        if (a == b) {
            throw new NoSuchElementException();
        }
        int sum = 0;
        int[] lying = made(plait, 0);
        for (int time = home(plait); time > 0; time--) {
            for (int crossing : plait.row) {
                int one = lying[Math.abs(crossing)];
                int other = lying[Math.abs(crossing) + 1];
                if (one == a && other == b || one == b && other == a) {
                    sum += Integer.signum(crossing);
                }
                change(lying, crossing);
            }
        }
        return sum;
    }

    int use(int k, int place) {
        Plait plait = known(k);
        onPlace(plait, place);
        return 2 * levels(plait) + sidesOf(plait, place, 1).replace("u", "").length();
    }

    int bundle(int field, int width, int straws) {
        if (bundles.size() == 40 || field < 0 || field > 31 || width < 1 || width > 9 || straws < 1
                || straws > 5000) {
            return -1;
        }
        Stock bundle = new Stock();
        bundle.width = width;
        bundle.left = straws;
        bundle.fields = 1 << field;
        bundles.add(bundle);
        return bundles.size() - 1;
    }

    int left(int bundle) {
        if (bundle < 0 || bundle >= bundles.size()) {
            throw new NoSuchElementException();
        }
        return bundles.get(bundle).left;
    }

    /** Takes one by one, from the first of the width that has one: the numbers of those, or null. */
    private static List<Integer> take(List<Stock> from, int width, int need) {
        int there = 0;
        for (Stock stock : from) {
            there += stock.width == width ? stock.left : 0;
        }
        if (there < need) {
            return null;
        }
        List<Integer> numbers = new ArrayList<>();
        int number = 0;
        for (int taken = 0; taken < need; taken++) {
            while (from.get(number).width != width || from.get(number).left == 0) {
                number++;
            }
            from.get(number).left--;
            if (!numbers.contains(number)) {
                numbers.add(number);
            }
        }
        return numbers;
    }

    private static int fieldsOf(List<Stock> from, List<Integer> numbers) {
        int fields = 0;
        for (int number : numbers) {
            fields |= from.get(number).fields;
        }
        return fields;
    }

    int score(int k, int times, int width) {
        if (scores.size() == 60 || size(k) < 0 || times < 1 || times > 200 || width < 1 || width > 9
                || !holds(plaits[k])) {
            return -1;
        }
        int need = 0;
        for (int place = 1; place <= plaits[k].straws; place++) {
            int used = 2 * levels(plaits[k]) * times + sidesOf(plaits[k], place, times).replace("u", "").length();
            while (used > 0) {
                need++;
                used -= 100;
            }
        }
        List<Integer> numbers = take(bundles, width, need);
        if (numbers == null) {
            return -1;
        }
        Stock score = new Stock();
        score.width = width;
        score.whole = 2 * levels(plaits[k]) * times;
        score.left = score.whole;
        score.fields = fieldsOf(bundles, numbers);
        score.taken = need;
        scores.add(score);
        return scores.size() - 1;
    }

    int scored(int number, int what) {
        if (number < 0 || number >= scores.size()) {
            throw new NoSuchElementException();
        }
        Stock score = scores.get(number);
        return pick(what, score.whole, score.left, score.width, score.fields, score.taken);
    }

    int hat(int width, int r) {
        if (hats.size() == 60 || width < 1 || width > 9 || r < 1 || r > 400 || r % width > 0) {
            return -1;
        }
        long need = 0;
        for (long k = 1; k <= r / width; k++) {
            need += Math.floorDiv(710L * (2 * k - 1) * width, 226L) + 1;
        }
        List<Integer> numbers = take(scores, width, (int) need);
        if (numbers == null) {
            return -1;
        }
        int bits = 0;
        for (int number : numbers) {
            bits += number < 31 ? 1 << number : 0;
        }
        hats.add(new Spiral((int) need, r / width, fieldsOf(scores, numbers), bits));
        return hats.size() - 1;
    }

    int sewn(int number, int what) {
        if (number < 0 || number >= hats.size()) {
            throw new NoSuchElementException();
        }
        Spiral hat = hats.get(number);
        return pick(what, hat.length, hat.turns, hat.fields, hat.scores);
    }

    int count(int what) {
        int straws = 0;
        for (Stock bundle : bundles) {
            straws += bundle.left;
        }
        return pick(what, bundles.size(), scores.size(), hats.size(), tape.size(), straws);
    }

    /**
     * The form by brute force: permutations as texts of digits, each D undone carried to the front at
     * once, and any two neighbours mended from the left as long as there is something to mend.
     */
    private static Told told(int straws, List<Integer> row) {
        String empty = "1234567".substring(0, straws);
        String whole = new StringBuilder(empty).reverse().toString();
        int power = 0;
        List<String> factors = new ArrayList<>();
        for (int crossing : row) {
            if (crossing > 0) {
                factors.add(withBehind(empty, crossing));
            } else {
                power--;
                factors.replaceAll(factor -> turned(straws, factor));
                factors.add(withBehind(whole, -crossing));
            }
        }
        boolean mended = true;
        while (mended) {
            mended = false;
            for (int j = 0; j + 1 < factors.size(); j++) {
                mended |= mend(factors, j);
            }
            factors.removeIf(factor -> factor.equals(empty));
            while (!factors.isEmpty() && factors.get(0).equals(whole)) {
                factors.remove(0);
                power++;
            }
        }
        return new Told(power, factors);
    }

    private static String turned(int straws, String factor) {
        StringBuilder turned = new StringBuilder();
        for (char digit : new StringBuilder(factor).reverse().toString().toCharArray()) {
            turned.append(straws + 1 - (digit - '0'));
        }
        return turned.toString();
    }

    private static String withBehind(String factor, int number) {
        char low = (char) ('0' + number);
        char high = (char) ('1' + number);
        return factor.replace(low, 'x').replace(high, low).replace('x', high);
    }

    private static String withoutAhead(String factor, int number) {
        StringBuilder changed = new StringBuilder(factor);
        changed.setCharAt(number - 1, factor.charAt(number));
        changed.setCharAt(number, factor.charAt(number - 1));
        return changed.toString();
    }

    private static boolean mend(List<String> factors, int j) {
        String one = factors.get(j);
        String next = factors.get(j + 1);
        boolean mended = false;
        for (int number = 1; number < one.length(); number++) {
            boolean apart = one.indexOf('0' + number) < one.indexOf('1' + number);
            if (apart && next.charAt(number - 1) > next.charAt(number)) {
                one = withBehind(one, number);
                next = withoutAhead(next, number);
                mended = true;
                number = 0;
            }
        }
        factors.set(j, one);
        factors.set(j + 1, next);
        return mended;
    }
}
