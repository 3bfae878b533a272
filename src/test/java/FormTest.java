import java.util.ArrayList;
import java.util.Arrays;
import java.util.List;
import java.util.Random;

/**
 * The FORM of random rows, against its definition: the row that it tells is alike the first one, its
 * factors are neither D nor empty, and each has of the next one all that it can. Rows are compared
 * without any form: short ones by what they do to the free group (two do the same just if they are
 * alike), long ones by Burau's matrices at a random number of a prime field.
 */
public final class FormTest {
    private static final long PRIME = 1_000_000_007L;
    private static final Random RANDOM = new Random(20261116);

    private FormTest() {
    }

    public static void main(String[] args) {
        for (int straws = 2; straws <= 7; straws++) {
            for (int round = 0; round < 120; round++) {
                checkForm(straws, randomRow(straws, RANDOM.nextInt(13)), true);
            }
            for (int round = 0; round < 20; round++) {
                checkForm(straws, randomRow(straws, RANDOM.nextInt(301)), false);
            }
            for (int round = 0; round < 150; round++) {
                checkAlike(straws);
                checkStepsKeepAlike(straws);
            }
        }
        Check.end("FormTest");
    }

    private static int[] randomRow(int straws, int length) {
        int[] row = new int[length];
        int share = RANDOM.nextInt(5);
        for (int j = 0; j < length; j++) {
            int number = 1 + RANDOM.nextInt(straws - 1);
            row[j] = RANDOM.nextInt(4) < share ? number : -number;
        }
        return row;
    }

    private static String textOf(int[] row) {
        StringBuilder text = new StringBuilder();
        for (int crossing : row) {
            text.append(Math.abs(crossing)).append(crossing > 0 ? '+' : '-');
        }
        return text.toString();
    }

    private static void checkForm(int straws, int[] row, boolean isShort) {
        PlaitBench x = new PlaitBench();
        Check.same("the fault", 0, Check.pattern(x, 0, straws, textOf(row)));
        String what = straws + " straws " + textOf(row) + ": ";
        int[][] factors = new int[x.about(0, 6)][];
        for (int j = 0; j < factors.length; j++) {
            factors[j] = unpacked(what, straws, x.factor(0, j));
            Check.holds(what + "factor " + j + " is no D", !isWhole(factors[j]));
            Check.holds(what + "factor " + j + " is not empty", crossingsOf(factors[j]).length > 0);
        }
        for (int j = 0; j + 1 < factors.length; j++) {
            Check.holds(what + "factor " + j + " has all that it can", hasAllThatItCan(factors[j], factors[j + 1]));
        }
        int[] told = rowOfForm(straws, x.about(0, 5), factors);
        if (isShort) {
            Check.holds(what + "the form is alike the row", doTheSame(straws, row, told));
        }
        long number = 2 + RANDOM.nextInt(1_000_000_000);
        Check.holds(what + "the form has the row's matrix",
                Arrays.deepEquals(burau(straws, row, number), burau(straws, told, number)));
    }

    private static void checkAlike(int straws) {
        int[] one = randomRow(straws, RANDOM.nextInt(5));
        int[] other = randomRow(straws, RANDOM.nextInt(5));
        PlaitBench x = new PlaitBench();
        Check.pattern(x, 0, straws, textOf(one));
        Check.pattern(x, 1, straws, textOf(other));
        Check.same("alike, " + straws + " straws " + textOf(one) + " and " + textOf(other),
                doTheSame(straws, one, other) ? 1 : 0, x.alike(0, 1) ? 1 : 0);
    }

    private static void checkStepsKeepAlike(int straws) {
        int[] one = randomRow(straws, RANDOM.nextInt(40));
        List<Integer> other = new ArrayList<>();
        for (int crossing : one) {
            other.add(crossing);
        }
        for (int step = 0; step < 200; step++) {
            takeStep(other, straws);
        }
        PlaitBench x = new PlaitBench();
        Check.pattern(x, 0, straws, textOf(one));
        int[] row = other.stream().mapToInt(Integer::intValue).toArray();
        Check.pattern(x, 1, straws, textOf(row));
        Check.holds("steps lead from " + textOf(one) + " to " + textOf(row), x.alike(0, 1));
        row[RANDOM.nextInt(row.length)] *= -1;
        Check.pattern(x, 1, straws, textOf(row));
        Check.holds("a changed sign is not alike " + textOf(row), !x.alike(0, 1));
    }

    /** One of the document's steps, at a random place, where it can be taken there. */
    private static void takeStep(List<Integer> row, int straws) {
        int at = RANDOM.nextInt(row.size() + 1);
        if (row.size() < 60 && RANDOM.nextInt(3) == 0 || row.isEmpty()) {
            int crossing = (1 + RANDOM.nextInt(straws - 1)) * (RANDOM.nextBoolean() ? 1 : -1);
            row.add(at, -crossing);
            row.add(at, crossing);
            return;
        }
        if (at + 1 < row.size()) {
            int a = row.get(at);
            int b = row.get(at + 1);
            if (a == -b && row.size() > 3) {
                row.remove(at + 1);
                row.remove(at);
                return;
            }
            if (Math.abs(Math.abs(a) - Math.abs(b)) >= 2) {
                row.set(at, b);
                row.set(at + 1, a);
                return;
            }
            if (at + 2 < row.size() && a > 0 && b > 0 && Math.abs(a - b) == 1 && row.get(at + 2) == a) {
                row.set(at, b);
                row.set(at + 1, a);
                row.set(at + 2, b);
            }
        }
    }

    private static int[] unpacked(String what, int straws, int code) {
        int[] to = new int[straws];
        boolean[] met = new boolean[8];
        for (int place = 0; place < straws; place++) {
            to[place] = code >> 3 * place & 7;
            Check.holds(what + "a permutation", to[place] >= 1 && to[place] <= straws && !met[to[place]]);
            met[to[place]] = true;
        }
        Check.same(what + "nothing above its bits", 0, code >> 3 * straws);
        return to;
    }

    private static boolean isWhole(int[] to) {
        for (int place = 0; place < to.length; place++) {
            if (to[place] != to.length - place) {
                return false;
            }
        }
        return true;
    }

    /** A row of + alone in which no two straws cross twice and each goes where it must. */
    private static int[] crossingsOf(int[] to) {
        int[] lying = to.clone();
        List<Integer> row = new ArrayList<>();
        for (int round = 0; round < lying.length; round++) {
            for (int i = 0; i + 1 < lying.length; i++) {
                if (lying[i] > lying[i + 1]) {
                    int kept = lying[i];
                    lying[i] = lying[i + 1];
                    lying[i + 1] = kept;
                    row.add(i + 1);
                }
            }
        }
        return row.stream().mapToInt(Integer::intValue).toArray();
    }

    private static boolean hasAllThatItCan(int[] factor, int[] next) {
        for (int i = 1; i < factor.length; i++) {
            boolean nextBegins = next[i - 1] > next[i];
            int from = 0;
            int fromNext = 0;
            for (int place = 0; place < factor.length; place++) {
                from = factor[place] == i ? place : from;
                fromNext = factor[place] == i + 1 ? place : fromNext;
            }
            boolean haveNotCrossed = from < fromNext;
            if (nextBegins && haveNotCrossed) {
                return false;
            }
        }
        return true;
    }

    private static int[] rowOfForm(int straws, int power, int[][] factors) {
        int[] whole = new int[straws];
        for (int place = 0; place < straws; place++) {
            whole[place] = straws - place;
        }
        int[] wholeRow = crossingsOf(whole);
        List<Integer> row = new ArrayList<>();
        for (int made = 0; made < Math.abs(power); made++) {
            for (int j = 0; j < wholeRow.length; j++) {
                row.add(power > 0 ? wholeRow[j] : -wholeRow[wholeRow.length - 1 - j]);
            }
        }
        for (int[] factor : factors) {
            for (int crossing : crossingsOf(factor)) {
                row.add(crossing);
            }
        }
        return row.stream().mapToInt(Integer::intValue).toArray();
    }

    private static boolean doTheSame(int straws, int[] one, int[] other) {
        return Arrays.equals(actionOf(straws, one), actionOf(straws, other));
    }

    private static String[] actionOf(int straws, int[] row) {
        List<int[]> images = new ArrayList<>();
        for (int place = 1; place <= straws; place++) {
            images.add(new int[] {place});
        }
        for (int crossing : row) {
            int i = Math.abs(crossing) - 1;
            int[] a = images.get(i);
            int[] b = images.get(i + 1);
            if (crossing > 0) {
                images.set(i, product(product(a, b), inverse(a)));
                images.set(i + 1, a);
            } else {
                images.set(i, b);
                images.set(i + 1, product(product(inverse(b), a), b));
            }
        }
        String[] texts = new String[straws];
        for (int place = 0; place < straws; place++) {
            texts[place] = Arrays.toString(images.get(place));
        }
        return texts;
    }

    private static int[] product(int[] a, int[] b) {
        int gone = 0;
        while (gone < a.length && gone < b.length && a[a.length - 1 - gone] == -b[gone]) {
            gone++;
        }
        int[] c = Arrays.copyOf(a, a.length + b.length - 2 * gone);
        System.arraycopy(b, gone, c, a.length - gone, b.length - gone);
        return c;
    }

    private static int[] inverse(int[] a) {
        int[] c = new int[a.length];
        for (int j = 0; j < a.length; j++) {
            c[j] = -a[a.length - 1 - j];
        }
        return c;
    }

    private static long[][] burau(int straws, int[] row, long number) {
        long inverse = powerOf(number, PRIME - 2);
        long[][] matrix = new long[straws][straws];
        for (int place = 0; place < straws; place++) {
            matrix[place][place] = 1;
        }
        for (int crossing : row) {
            int i = Math.abs(crossing) - 1;
            for (long[] line : matrix) {
                long a = line[i];
                long b = line[i + 1];
                if (crossing > 0) {
                    line[i] = (a * Math.floorMod(1 - number, PRIME) + b) % PRIME;
                    line[i + 1] = a * number % PRIME;
                } else {
                    line[i] = b * inverse % PRIME;
                    line[i + 1] = (a + b * Math.floorMod(1 - inverse, PRIME)) % PRIME;
                }
            }
        }
        return matrix;
    }

    private static long powerOf(long base, long exponent) {
        long result = 1;
        long factor = base % PRIME;
        for (long rest = exponent; rest > 0; rest /= 2) {
            if (rest % 2 == 1) {
                result = result * factor % PRIME;
            }
            factor = factor * factor % PRIME;
        }
        return result;
    }
}
