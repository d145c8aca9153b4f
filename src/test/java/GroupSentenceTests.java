import java.util.ArrayList;
import java.util.Arrays;
import java.util.List;

/** What the document says of operators and indices at their bounds. */
public final class GroupSentenceTests extends Sentences {
    private static final int[] TOO_SMALL_OR_LARGE = {-128, 128, LEAST, MOST, 255, 256, -256};

    public static void main(String[] args) {
        new GroupSentenceTests().all();
    }

    private void all() {
        sentence("Terms 1: a TRANSLATION of three twelfths, each 0 .. 11", this::twelfths);
        sentence("Terms 1: (R, t) behind (S, u) is (R S, R u + t)", this::behind);
        sentence("Terms 1: translations modulo 12", this::modulo12);
        sentence("Terms 1: An INDEX is sent by it to the row (h k l) R", this::rowTimesRotation);
        sentence("Terms 1: its PHASE is h t1 + k t2 + l t3 modulo 12", this::phase);
        sentence("Terms 2: numbered from 0 in the order of their rotations' nine numbers, then of their translations' three",
            this::numbering);
        sentence("Terms 2: LAUE CLASSES: 0 for n = 1; 1 for 2", this::laueOneAndTwo);
        sentence("Terms 2: LAUE CLASSES: 2 for 4 without one whose trace is 1; 3 for 4 with one", this::laueFour);
        sentence("Terms 2: LAUE CLASSES: 4 for 8; 5 for 3", this::laueEightAndThree);
        sentence("Terms 2: LAUE CLASSES: 6 for 6 without one whose trace is 2; 7 for 6 with one", this::laueSix);
        sentence("Terms 2: LAUE CLASSES: 8 for 12 with one whose trace is 2; 9 for 12 without; 10 for 24", this::laueTwelve);
        sentence("Terms 3: EQUIVALENT to an index are those with all signs changed", this::signsChanged);
        sentence("Terms 3: The GREATEST of them (by h, then k, then l)", this::byHThenKThenL);
        sentence("Terms 3: how many different ones there are is its MULTIPLICITY", this::different);
        sentence("Terms 3: ABSENT if an operator sends it to itself with a phase that is not 0", this::absence);
        sentence("Promise 4: 0: there is its group, and nothing of one before", this::nothingOfOneBefore);
        sentence("Promise 5: How many operators the group has", this::orders);
        sentence("Promise 5: 0 without one", this::noOrder);
        sentence("Promise 6: k = 0 .. 8 its rotation, row by row, 9 .. 11 its translation", this::numbersOfOperators);
        sentence("Promise 6: IndexOutOfBoundsException: there is no such operator", this::noSuchOperator);
        sentence("Promise 6: IndexOutOfBoundsException: there is no such k", this::noSuchNumber);
        sentence("Promise 7: NONE without a group", this::noLaue);
        sentence("Promise 8: How many operators have the rotation of 1, or that with its signs changed", this::plain);
        sentence("Promise 8: 0 for another sign", this::otherSign);
        sentence("Promise 8: 0 without a group", this::noPlain);
        sentence("Promise 9: IndexOutOfBoundsException: there is no such operator", this::sentByNone);
        sentence("Promise 9: IndexOutOfBoundsException: there is no such what", this::sentWhat);
        sentence("Promise 9: IllegalArgumentException: a number is not -127 .. 127", this::sentBounds);
        sentence("Promise 10: IllegalStateException without a group", this::absentWithoutGroup);
        sentence("Promise 10: IllegalArgumentException: a number is not -127 .. 127", this::absentBounds);
        sentence("Promise 11: the numbers of the greatest one of its kind may be beyond 127", this::greatestBeyond);
        sentence("Promise 11: IllegalStateException without a group", this::greatestWithoutGroup);
        sentence("Promise 11: IllegalArgumentException: a number is not -127 .. 127", this::greatestBounds);
        sentence("Promise 11: IndexOutOfBoundsException: another what", this::greatestWhat);
        c.finish();
    }

    private int[] operator(int i) {
        int[] numbers = new int[12];
        for (int k = 0; k < 12; k++) {
            numbers[k] = x.op(i, k);
        }
        return numbers;
    }

    private List<int[]> operators() {
        List<int[]> all = new ArrayList<>();
        for (int i = 0; i < x.order(); i++) {
            all.add(operator(i));
        }
        return all;
    }

    private void sentTo(int i, int h, int k, int l, int... wanted) {
        for (int what = 0; what < wanted.length; what++) {
            c.due("sent " + i + " " + h + " " + k + " " + l + " " + what, x.sent(i, h, k, l, what), wanted[what]);
        }
    }

    private void kind(int h, int k, int l, int... wanted) {
        for (int what = 0; what < wanted.length; what++) {
            c.due("greatest " + h + " " + k + " " + l + " " + what, x.greatest(h, k, l, what), wanted[what]);
        }
    }

    private void laue(int wanted, String... symbols) {
        for (String text : symbols) {
            right(text);
            c.due("laue of " + text, x.laue(), wanted);
        }
    }

    private void twelfths() {
        for (String text : new String[] {"P 65", "P 43", "R 32 2\"c", "P -1 1u", "-P 4ad", "I -4bdw3"}) {
            right(text);
            for (int i = 0; i < x.order(); i++) {
                for (int k = 9; k < 12; k++) {
                    yes(text + " twelfths", x.op(i, k) >= 0 && x.op(i, k) <= 11);
                }
            }
        }
        holds("P 65", 1, -1, 0, 1, 0, 0, 0, 0, 1, 0, 0, 10);
        holds("P 1uuu", 1, 0, 0, 0, 1, 0, 0, 0, 1, 9, 0, 0);
    }

    private void behind() {
        // a group where the two orders of a product, and R u + t and S t + u, are not the same
        hasOrder("P 4abw 2nw", 8);
        List<int[]> all = operators();
        for (int[] r : all) {
            for (int[] s : all) {
                int[] product = new int[12];
                for (int i = 0; i < 3; i++) {
                    int shift = r[9 + i];
                    for (int j = 0; j < 3; j++) {
                        product[3 * i + j] = r[3 * i] * s[j] + r[3 * i + 1] * s[3 + j] + r[3 * i + 2] * s[6 + j];
                        shift += r[3 * i + j] * s[9 + j];
                    }
                    product[9 + i] = Math.floorMod(shift, 12);
                }
                yes("has " + Arrays.toString(product), all.stream().anyMatch(o -> Arrays.equals(o, product)));
            }
        }
        // 4 with 6 6 3, behind 2 about x with 6 6 9, is " with 0 0 0
        yes("the product by hand", all.stream().anyMatch(
            o -> Arrays.equals(o, new int[] {0, 1, 0, 1, 0, 0, 0, 0, -1, 0, 0, 0})));
    }

    private void modulo12() {
        // four times 3, and three times 8, are 0 again
        hasOrder("P 41", 4);
        yes("9", has(0, 1, 0, -1, 0, 0, 0, 0, 1, 0, 0, 9));
        hasOrder("P 32", 3);
        yes("16 is 4", has(-1, 1, 0, -1, 0, 0, 0, 0, 1, 0, 0, 4));
        // below 0: 1 with signs changed behind 3 0 0
        hasOrder("P -1 1u", 8);
        yes("-3 is 9", has(-1, 0, 0, 0, -1, 0, 0, 0, -1, 9, 0, 0));
        hasOrder("R 1", 3);
    }

    private void rowTimesRotation() {
        right("P 3");
        sentTo(0, 1, 2, 5, -3, 1, 5);
        sentTo(1, 1, 2, 5, 2, -3, 5);
        sentTo(2, 1, 2, 5, 1, 2, 5);
        sentTo(0, 127, 127, 127, -254, 127, 127);
        sentTo(1, -127, -127, -127, -127, 254, -127);
        sentTo(0, 0, 0, 0, 0, 0, 0, 0);
        right("P 3*");
        sentTo(0, 1, 2, 3, 2, 3, 1);
        sentTo(1, 1, 2, 3, 3, 1, 2);
    }

    private void phase() {
        right("P 41");
        // operators in their order: 2 (0 0 6), 4 (0 0 3), 4 three times (0 0 9), 1
        int[] twelfths = {6, 3, 9, 0};
        for (int i = 0; i < 4; i++) {
            for (int l : new int[] {-127, -5, -4, -1, 0, 1, 3, 4, 127}) {
                c.due("phase of 7 8 " + l + " by " + i, x.sent(i, 7, 8, l, 3), Math.floorMod(l * twelfths[i], 12));
            }
        }
        c.due("11 at most", x.sent(1, 0, 0, -1, 3), 9);
        // operator 1 has 3 3 3
        right("P 1d");
        c.due("h", x.sent(1, 1, 0, 0, 3), 3);
        c.due("k", x.sent(1, 0, 1, 0, 3), 3);
        c.due("l", x.sent(1, 0, 0, 1, 3), 3);
        c.due("all three", x.sent(1, 1, 1, 1, 3), 9);
        c.due("12 is 0", x.sent(1, 1, 1, 2, 3), 0);
        c.due("-3 is 9", x.sent(1, 0, -1, 0, 3), 9);
        c.due("of 127 three times", x.sent(1, 127, 127, 127, 3), 3);
        c.due("of -127 three times", x.sent(1, -127, -127, -127, 3), 9);
    }

    private void numbering() {
        right("F 2y");
        int[][] shifts = {{0, 0, 0}, {0, 6, 6}, {6, 0, 6}, {6, 6, 0}};
        int[][] rotations = {{-1, 0, 0, 0, 1, 0, 0, 0, -1}, {1, 0, 0, 0, 1, 0, 0, 0, 1}};
        for (int i = 0; i < 8; i++) {
            int[] wanted = Arrays.copyOf(rotations[i / 4], 12);
            System.arraycopy(shifts[i % 4], 0, wanted, 9, 3);
            yes("operator " + i + " of F 2y", Arrays.equals(operator(i), wanted));
        }
        for (String text : new String[] {"-P 6 2", "P 4n 2 3", "P 1u 2x", "-R 3"}) {
            right(text);
            List<int[]> all = operators();
            for (int i = 1; i < all.size(); i++) {
                yes(text + " " + i, Arrays.compare(all.get(i - 1), all.get(i)) < 0);
            }
        }
    }

    private void laueOneAndTwo() {
        laue(0, "P 1", "P -1", "-P 1", "F 1", "R -1n");
        laue(1, "P 2", "P -2", "-P 2", "P 2'", "P -2\"", "-C 2yc");
    }

    private void laueFour() {
        laue(2, "P 2 2", "P 2 -2", "-P 2 2", "P -2 -2", "P 2' 2\"");
        laue(3, "P 4", "P -4", "-P 4", "I 41", "P 4x", "P -4y");
    }

    private void laueEightAndThree() {
        laue(4, "P 4 2", "P 4 -2", "P -4 2", "P -4 -2", "-P 4 2", "P 2 2 2'");
        laue(5, "P 3", "P -3", "-P 3", "R 3", "P 3*", "-P 3*");
    }

    private void laueSix() {
        laue(6, "P 3 2", "P 3 -2", "-P 3 2\"", "P 3* 2'", "R 3 2\"");
        laue(7, "P 6", "P -6", "-P 6", "P 3 -2z", "P 3 2z");
    }

    private void laueTwelve() {
        laue(8, "P 6 2", "P 6 -2", "P -6 2", "-P 6 2", "P 3 2 2\"");
        laue(9, "P 2 2 3", "-P 2 2 3", "I 2 3", "P 2 -3");
        laue(10, "P 4 2 3", "P -4 2 3", "-P 4 2 3", "P 4 3", "-F 4vw 2vw 3");
    }

    private void signsChanged() {
        right("P 1");
        kind(1, 2, 3, 1, 2, 3, 2);
        kind(-1, -2, -3, 1, 2, 3, 2);
        kind(0, 0, -127, 0, 0, 127, 2);
        right("P -1");
        kind(-1, 2, 3, 1, -2, -3, 2);
    }

    private void byHThenKThenL() {
        right("P 3*");
        kind(1, 2, 3, 3, 1, 2, 6);
        kind(3, 1, 3, 3, 3, 1, 6);
        kind(-1, -2, -3, 3, 1, 2, 6);
        kind(-1, 0, 0, 1, 0, 0, 6);
        right("P -2");
        kind(1, 2, -3, 1, 2, 3, 4);
        kind(0, -2, -3, 0, 2, 3, 4);
        right("P 2x");
        kind(1, -2, -3, 1, 2, 3, 4);
        kind(1, -2, 3, 1, 2, -3, 4);
        kind(-1, -2, 3, 1, 2, -3, 4);
        right("P 1");
        kind(0, -1, 2, 0, 1, -2, 2);
        kind(0, 0, -2, 0, 0, 2, 2);
        kind(-1, 127, 127, 1, -127, -127, 2);
    }

    private void different() {
        right("-P 4 2 3");
        kind(0, 0, 0, 0, 0, 0, 1);
        kind(0, 0, -1, 1, 0, 0, 6);
        kind(-1, 1, -1, 1, 1, 1, 8);
        kind(0, -1, 1, 1, 1, 0, 12);
        kind(1, 1, -2, 2, 1, 1, 24);
        kind(0, 1, 2, 2, 1, 0, 24);
        kind(1, 2, 3, 3, 2, 1, 48);
        // many operators, but one rotation
        right("R 1u 1v 1w");
        kind(1, 2, 3, 1, 2, 3, 2);
        right("P 6");
        kind(0, 0, 0, 0, 0, 0, 1);
        kind(0, 0, -5, 0, 0, 5, 2);
        kind(1, 0, 0, 1, 0, 0, 6);
        kind(1, 0, 5, 1, 0, 5, 12);
    }

    private void absence() {
        right("P 2yb");
        c.due("sent to itself with 6", x.absent(0, 1, 0), 1);
        c.due("sent to itself with 6", x.absent(0, -127, 0), 1);
        c.due("sent to itself with 12, which is 0", x.absent(0, 2, 0), 0);
        c.due("sent to another with 6", x.absent(1, 1, 0), 0);
        c.due("sent to another with 6", x.absent(0, 1, 1), 0);
        c.due("0 0 0", x.absent(0, 0, 0), 0);
        right("P -1a");
        c.due("sent to all signs changed with 6", x.absent(1, 0, 0), 0);
        right("P 61");
        for (int l = -7; l <= 7; l++) {
            c.due("0 0 " + l, x.absent(0, 0, l), l % 6 == 0 ? 0 : 1);
        }
        right("P 1u");
        for (int h = -5; h <= 5; h++) {
            c.due(h + " 1 1", x.absent(h, 1, 1), h % 4 == 0 ? 0 : 1);
        }
        right("-F 4vw 2vw 3");
        c.due("by the last of many", x.absent(2, 0, 0), 1);
        c.due("0 0 0 of many", x.absent(0, 0, 0), 0);
        c.due("present", x.absent(4, 0, 0), 0);
    }

    private void nothingOfOneBefore() {
        right("-F 4vw 2vw 3");
        c.due("a smaller one", Checks.readSymbol(x, "P 2y"), 0);
        c.due("order", x.order(), 2);
        c.due("laue", x.laue(), 1);
        c.due("plain 1", x.plain(1), 1);
        c.due("plain -1", x.plain(-1), 0);
        kind(-1, 2, -3, 1, 2, 3, 4);
        kind(1, 2, -3, 1, 2, -3, 4);
        kind(0, -2, 0, 0, 2, 0, 2);
        c.due("absent", x.absent(1, 0, 0), 0);
        c.due("kinds", x.complete(1, 1), 9);
        c.due("a larger one", Checks.readSymbol(x, "I 4 2 3"), 0);
        c.due("order", x.order(), 48);
        c.due("laue", x.laue(), 10);
        kind(-1, 2, -3, 3, 2, 1, 48);
        c.due("absent", x.absent(1, 0, 0), 1);
        c.due("the least one", Checks.readSymbol(x, "P 1"), 0);
        c.due("laue", x.laue(), 0);
        kind(-1, 2, -3, 1, -2, 3, 2);
        String[] ofEachClass = {"P 1", "P 2y", "P 2 2", "P 4", "P 4 2", "P 3", "P 3 2", "P 6", "P 6 2", "P 2 2 3", "P 4 2 3"};
        int[] multiplicities = {2, 4, 8, 8, 16, 6, 12, 12, 24, 24, 48};
        for (String before : ofEachClass) {
            for (int i = 0; i < ofEachClass.length; i++) {
                right(before);
                c.due(ofEachClass[i] + " behind " + before, Checks.readSymbol(x, ofEachClass[i]), 0);
                c.due("laue of it", x.laue(), i);
                c.due("multiplicity of it", x.greatest(3, 5, 7, 3), multiplicities[i]);
            }
        }
    }

    private void orders() {
        hasOrder("P 1", 1);
        hasOrder("-P 1", 2);
        hasOrder("-F 4ud 2vw 3", 192);
        c.due("symbol", Checks.readSymbol(x, "P 2y"), 0);
        c.due("a smaller one behind a larger", x.order(), 2);
    }

    private void noOrder() {
        c.due("order", x.order(), 0);
        c.due("a refused symbol", Checks.readSymbol(x, "P"), -2);
        c.due("order", x.order(), 0);
        c.due("TOO_LARGE", Checks.readSymbol(x, "P 4 6x"), -9001);
        c.due("order", x.order(), 0);
    }

    private void numbersOfOperators() {
        right("P 31");
        yes("operator 0", Arrays.equals(operator(0), new int[] {-1, 1, 0, -1, 0, 0, 0, 0, 1, 0, 0, 8}));
        yes("operator 1", Arrays.equals(operator(1), new int[] {0, -1, 0, 1, -1, 0, 0, 0, 1, 0, 0, 4}));
        yes("operator 2", Arrays.equals(operator(2), new int[] {1, 0, 0, 0, 1, 0, 0, 0, 1, 0, 0, 0}));
    }

    private void opRefused(int i, int k) {
        c.dueThrow("op " + i + " " + k, INDEX, () -> x.op(i, k));
    }

    private void noSuchOperator() {
        opRefused(0, 0);
        right("-F 4vw 2vw 3");
        c.due("the last one", x.op(191, 0), 1);
        for (int i : new int[] {-1, 192, 193, LEAST, MOST}) {
            opRefused(i, 0);
            opRefused(i, 11);
        }
        c.due("symbol", Checks.readSymbol(x, "P 1"), 0);
        c.due("the only one", x.op(0, 0), 1);
        opRefused(1, 0);
        opRefused(191, 0);
        // numbers whose product with 12 is small again
        opRefused(357913942, 0);
        opRefused(1 << 30, 0);
    }

    private void noSuchNumber() {
        right("P 2y");
        c.due("the first", x.op(0, 0), -1);
        c.due("the last", x.op(0, 11), 0);
        for (int k : new int[] {-1, 12, 13, 24, LEAST, MOST}) {
            opRefused(0, k);
            opRefused(1, k);
        }
    }

    private void noLaue() {
        c.due("laue", x.laue(), ReflectionReducer.NONE);
        c.due("a refused symbol", Checks.readSymbol(x, "P"), -2);
        c.due("laue", x.laue(), ReflectionReducer.NONE);
        c.due("TOO_LARGE", Checks.readSymbol(x, "P 4 6x"), -9001);
        c.due("laue", x.laue(), ReflectionReducer.NONE);
    }

    private void plain() {
        right("F 2");
        c.due("1", x.plain(1), 4);
        c.due("-1", x.plain(-1), 0);
        right("-R 3");
        c.due("1", x.plain(1), 3);
        c.due("-1", x.plain(-1), 3);
        right("R 1u 1v 1w");
        c.due("1", x.plain(1), 192);
        c.due("-1", x.plain(-1), 0);
        right("P -1a");
        c.due("1", x.plain(1), 1);
        c.due("-1, wherever it is", x.plain(-1), 1);
    }

    private void otherSign() {
        right("-F 1");
        for (int sign : new int[] {0, 2, -2, 3, 255, LEAST, MOST}) {
            c.due("plain " + sign, x.plain(sign), 0);
        }
    }

    private void noPlain() {
        for (int sign : new int[] {1, -1, 0, 2}) {
            c.due("plain " + sign, x.plain(sign), 0);
        }
    }

    private void sentRefused(Class<? extends RuntimeException> by, int i, int h, int k, int l, int what) {
        c.dueThrow("sent " + i + " " + h + " " + k + " " + l + " " + what, by, () -> x.sent(i, h, k, l, what));
    }

    private void sentByNone() {
        sentRefused(INDEX, 0, 0, 0, 0, 0);
        sentRefused(INDEX, -1, 0, 0, 0, 3);
        right("P 2y");
        c.due("the last one", x.sent(1, 1, 2, 3, 0), 1);
        for (int i : new int[] {-1, 2, LEAST, MOST, 357913942, 1 << 30}) {
            sentRefused(INDEX, i, 1, 2, 3, 0);
            sentRefused(INDEX, i, 1, 2, 3, 3);
        }
    }

    private void sentWhat() {
        right("P 2yb");
        sentTo(0, 1, 3, 2, -1, 3, -2, 6);
        for (int what : new int[] {-1, 4, 5, LEAST, MOST}) {
            sentRefused(INDEX, 0, 1, 2, 3, what);
        }
    }

    private void sentBounds() {
        right("P 2y");
        sentTo(0, 127, -127, 127, -127, -127, -127);
        sentTo(0, -127, 127, -127, 127, 127, 127);
        for (int n : TOO_SMALL_OR_LARGE) {
            for (int what = 0; what < 4; what++) {
                sentRefused(ARGUMENT, 0, n, 0, 0, what);
                sentRefused(ARGUMENT, 0, 0, n, 0, what);
                sentRefused(ARGUMENT, 0, 0, 0, n, what);
            }
        }
    }

    private void absentRefused(Class<? extends RuntimeException> by, int h, int k, int l) {
        c.dueThrow("absent " + h + " " + k + " " + l, by, () -> x.absent(h, k, l));
    }

    private void absentWithoutGroup() {
        absentRefused(STATE, 0, 0, 0);
        absentRefused(STATE, 1, 2, 3);
        c.due("a refused symbol", Checks.readSymbol(x, "P"), -2);
        absentRefused(STATE, 1, 2, 3);
    }

    private void absentBounds() {
        right("P 1n");
        c.due("absent", x.absent(127, 127, 127), 1);
        c.due("absent", x.absent(-127, -127, -127), 1);
        c.due("absent", x.absent(-127, 127, 0), 0);
        for (int n : TOO_SMALL_OR_LARGE) {
            absentRefused(ARGUMENT, n, 0, 0);
            absentRefused(ARGUMENT, 0, n, 0);
            absentRefused(ARGUMENT, 0, 0, n);
        }
    }

    private void greatestBeyond() {
        right("P 3");
        kind(127, 127, 0, 254, -127, 0, 6);
        kind(-127, -127, -127, 254, -127, -127, 6);
        kind(127, 127, -127, 254, -127, 127, 6);
        right("P 6x");
        kind(0, 127, 127, 0, 254, -127, 6);
        right("P 6y");
        kind(127, 127, 127, 254, 127, -127, 12);
    }

    private void greatestRefused(Class<? extends RuntimeException> by, int h, int k, int l, int what) {
        c.dueThrow("greatest " + h + " " + k + " " + l + " " + what, by, () -> x.greatest(h, k, l, what));
    }

    private void greatestWithoutGroup() {
        greatestRefused(STATE, 0, 0, 0, 0);
        greatestRefused(STATE, 1, 2, 3, 3);
    }

    private void greatestBounds() {
        right("P 2y");
        kind(-127, 127, -127, 127, 127, 127, 4);
        for (int n : TOO_SMALL_OR_LARGE) {
            greatestRefused(ARGUMENT, n, 0, 0, 0);
            greatestRefused(ARGUMENT, 0, n, 0, 3);
            greatestRefused(ARGUMENT, 0, 0, n, 0);
        }
    }

    private void greatestWhat() {
        right("P 2y");
        kind(-1, -2, -3, 1, 2, 3, 4);
        for (int what : new int[] {-1, 4, 5, LEAST, MOST}) {
            greatestRefused(INDEX, 1, 2, 3, what);
        }
    }
}
