import java.util.Arrays;

/** What the document says of symbols, their faults and their groups at their bounds. */
public final class SymbolSentenceTests extends Sentences {
    private static final int[][] ROTATIONS_OF_Z = {
        {-1, 0, 0, 0, -1, 0, 0, 0, 1}, {0, -1, 0, 1, -1, 0, 0, 0, 1}, {0, -1, 0, 1, 0, 0, 0, 0, 1}, {1, -1, 0, 1, 0, 0, 0, 0, 1}};
    private static final int[][] ROTATIONS_OF_X = {
        {1, 0, 0, 0, -1, 0, 0, 0, -1}, {1, 0, 0, 0, 0, -1, 0, 1, -1}, {1, 0, 0, 0, 0, -1, 0, 1, 0}, {1, 0, 0, 0, 1, -1, 0, 1, 0}};
    private static final int[][] ROTATIONS_OF_Y = {
        {-1, 0, 0, 0, 1, 0, 0, 0, -1}, {-1, 0, 1, 0, 1, 0, -1, 0, 0}, {0, 0, 1, 0, 1, 0, -1, 0, 0}, {0, 0, 1, 0, 1, 0, -1, 0, 1}};
    private static final int[] PRIME_X = {-1, 0, 0, 0, 0, -1, 0, -1, 0};
    private static final int[] PRIME_Y = {0, 0, -1, 0, -1, 0, -1, 0, 0};
    private static final int[] PRIME_Z = {0, -1, 0, -1, 0, 0, 0, 0, -1};
    private static final int[] SECOND_X = {-1, 0, 0, 0, 0, 1, 0, 1, 0};
    private static final int[] SECOND_Y = {0, 0, 1, 0, -1, 0, 1, 0, 0};
    private static final int[] SECOND_Z = {0, 1, 0, 1, 0, 0, 0, 0, -1};
    private static final int[] STAR = {0, 0, 1, 1, 0, 0, 0, 1, 0};
    private static final String ORDERS = "2346";

    public static void main(String[] args) {
        new SymbolSentenceTests().all();
    }

    private void all() {
        sentence("Terms 2: blanks (32; none, or any number of them)", this::blanksBefore);
        sentence("Terms 2: perhaps - (before the letter)", this::perhapsMinus);
        sentence("Terms 2: one of P A B C I R F", this::letters);
        sentence("Terms 2: one to four MATRICES", this::oneToFour);
        sentence("Terms 2: each with one blank or more before it", this::blankBeforeEach);
        sentence("Terms 2: then blanks, or none", this::blanksBehind);
        sentence("Terms 2: perhaps -, an ORDER 1 2 3 4 6", this::orders);
        sentence("Terms 2: an AXIS, or none", this::oneAxis);
        sentence("Terms 2: at most four SHIFTS", this::atMostFourShifts);
        sentence("Terms 2: x y z (of order 2, 3, 4, 6)", this::axesXyz);
        sentence("Terms 2: ' and \" (of order 2)", this::axesOfTwo);
        sentence("Terms 2: * (of order 3)", this::axisOfThree);
        sentence("Terms 2: order 1 has none, and none may stand", this::noAxisOfOne);
        sentence("Terms 2: the first matrix that is not of order 1 has z", this::firstHasZ);
        sentence("Terms 2: the second such one x, if it is of order 2 and the first one of order 2 or 4", this::secondHasX);
        sentence("Terms 2: ' if it is of order 2 and the first one of order 3 or 6", this::secondHasPrime);
        sentence("Terms 2: each other one that is of order 3 has *", this::otherHasStar);
        sentence("Terms 2: for the rest an axis must stand", this::axisMustStand);
        sentence("Terms 2: a 6 0 0 .. d 3 3 3", this::shiftLetters);
        sentence("Terms 2: once at most a digit", this::oneDigit);
        sentence("Terms 2: for axes x y z a digit", this::digitOfAxes);
        sentence("Terms 2: for orders 3, 4, 6 a digit", this::digitOfOrders);
        sentence("Terms 2: a digit from 1 to the order less 1", this::digitBounds);
        sentence("Terms 2: that times 12 divided by the order, along the axis", this::digitAlong);
        sentence("Terms 2: The translation of a matrix is their sum modulo 12", this::sumModulo12);
        sentence("Terms 2: ROTATIONS of z", () -> rotations('z', ROTATIONS_OF_Z));
        sentence("Terms 2: row i + 1, column j + 1 (from 1 on behind 3)", () -> rotations('x', ROTATIONS_OF_X));
        sentence("Terms 2: row i + 2, column j + 2 (from 1 on behind 3)", () -> rotations('y', ROTATIONS_OF_Y));
        sentence("Terms 2: the axis BEFORE, that of the latest matrix before with x, y or z", this::axisBefore);
        sentence("Terms 2: also by default", this::axisBeforeByDefault);
        sentence("Terms 2: without one, z", this::noAxisBefore);
        sentence("Terms 2: With - before the order all nine numbers change their sign", this::minusRotation);
        sentence("Terms 2: the first byte with which no symbol begins so", this::firstByte);
        sentence("Terms 2: the end: how many bytes there are", this::faultAtEnd);
        sentence("Terms 2: where an axis must stand, what stands there", this::faultOfAxis);
        sentence("Terms 2: the least set that has 1 with 0 0 0", this::one);
        sentence("Terms 2: the centring", this::centring);
        sentence("Terms 2: for - before the letter", this::minusLetter);
        sentence("Terms 2: When it would have more than 192 it is TOO_LARGE", this::moreThan192);
        sentence("Promise 4: 0: there is its group, and there are no rows", this::rowsGo);
        sentence("Promise 4: -1 less the place (from 0) of its FAULT", this::placeOfFault);
        sentence("Promise 4: its FAULT: the group that there was, and rows, stay", this::staysAfterFault);
        sentence("Promise 4: TOO_LARGE: the group that there was, and rows, stay", this::staysAfterTooLarge);
        c.finish();
    }

    private static int[] with(int[] rotation, int... translation) {
        int[] all = Arrays.copyOf(rotation, 12);
        System.arraycopy(translation, 0, all, 9, 3);
        return all;
    }

    private static int[] shifted(int... translation) {
        return with(new int[] {1, 0, 0, 0, 1, 0, 0, 0, 1}, translation);
    }

    private static int[] negative(int[] numbers) {
        return Arrays.stream(numbers).map(n -> -n).toArray();
    }

    private void blanksBefore() {
        right("P 1");
        right(" P 1");
        right("       P 1");
        right("   -P 1");
        fault("       ", 7);
        fault("   x", 3);
    }

    private void perhapsMinus() {
        hasOrder("P 1", 1);
        hasOrder("-P 1", 2);
        fault("--P 1", 1);
        fault("- P 1", 1);
        fault("+P 1", 0);
        fault("P- 1", 1);
    }

    private void letters() {
        for (char letter = 0; letter < 256; letter++) {
            if ("PABCIRF".indexOf(letter) >= 0) {
                right(letter + " 1");
                fault("" + letter + letter + " 1", 1);
            } else if (letter != ' ' && letter != '-') {
                fault(letter + " 1", 0);
                fault("-" + letter + " 1", 1);
            }
        }
    }

    private void oneToFour() {
        fault("P", 1);
        fault("P  ", 3);
        right("P 1");
        right("P 1 1");
        right("P 1 1 1");
        right("P 1 1 1 1");
        fault("P 1 1 1 1 1", 10);
        fault("P 2 2 3 -1 -1", 11);
        right("P -1 -1 -1 -1");
        holds("P 1 1 1 1a", shifted(6, 0, 0));
    }

    private void blankBeforeEach() {
        fault("P1", 1);
        fault("P-1", 1);
        right("P  1");
        fault("P 2x2", 4);
        fault("P 2-2", 3);
        fault("P 11", 3);
        fault("P 2x 2y2z", 7);
        right("P 2x    2y   2z");
    }

    private void blanksBehind() {
        right("P 1 ");
        right("P 1 1 1 1 ");
        right("P 1 1 1 1        ");
        fault("P 1 \n", 4);
        fault("P 1 1 1 1  \n", 11);
        fault("P 1 1 1 1  -", 11);
    }

    private void orders() {
        for (char order = 0; order < 256; order++) {
            if ("12346".indexOf(order) >= 0) {
                right("P " + order);
                right("P -" + order);
            } else if (order != ' ' && order != '-') {
                fault("P " + order, 2);
                fault("P -" + order, 3);
            }
        }
        fault("P --1", 3);
        fault("P - 1", 3);
        fault("P 1-", 3);
    }

    private void oneAxis() {
        right("P 2");
        right("P 2x");
        fault("P 2xx", 4);
        fault("P 2x'", 4);
        fault("P 3*z", 4);
        fault("P 2ax", 4);
        fault("P x2", 2);
    }

    private void atMostFourShifts() {
        hasOrder("P 1", 1);
        right("P 1a");
        right("P 1abcn");
        fault("P 1abcna", 7);
        fault("P 1 1abcna", 9);
        fault("P 4yabcna", 8);
        // a digit is a shift too
        right("P 4abc1");
        fault("P 4abcn1", 7);
        fault("P 41abcn", 7);
    }

    private void axesXyz() {
        for (char axis : "xyz".toCharArray()) {
            fault("P 1" + axis, 3);
            for (char order : ORDERS.toCharArray()) {
                right("P " + order + axis);
                right("P -" + order + axis + "a");
            }
        }
    }

    private void axesOfTwo() {
        for (char axis : "'\"".toCharArray()) {
            right("P 2" + axis);
            right("P -2" + axis + "c");
            for (char order : "1346".toCharArray()) {
                fault("P " + order + axis, 3);
                fault("P 2 -" + order + axis, 6);
            }
        }
    }

    private void axisOfThree() {
        right("P 3*");
        right("P -3*n");
        for (char order : "1246".toCharArray()) {
            fault("P " + order + "*", 3);
            fault("P 2 -" + order + "*", 6);
        }
    }

    private void noAxisOfOne() {
        hasOrder("P 1", 1);
        right("P 1 1");
        for (char axis : "xyz'\"*".toCharArray()) {
            fault("P 1" + axis, 3);
            fault("P -1" + axis, 4);
            fault("P 2 1" + axis, 5);
        }
    }

    private void firstHasZ() {
        for (int i = 0; i < 4; i++) {
            holds("P " + ORDERS.charAt(i), ROTATIONS_OF_Z[i]);
            holds("P 1 1 1 " + ORDERS.charAt(i), ROTATIONS_OF_Z[i]);
            holds("P -" + ORDERS.charAt(i), negative(ROTATIONS_OF_Z[i]));
        }
        lacks(PRIME_Z);
        holds("P 3", ROTATIONS_OF_Z[1]);
        lacks(STAR);
    }

    private void secondHasX() {
        holds("P 2 2", ROTATIONS_OF_X[0]);
        hasOrder("P 2 2", 4);
        lacks(PRIME_Z);
        holds("P 4 2b", with(ROTATIONS_OF_X[0], 0, 6, 0));
        holds("P 1 2 1 2", ROTATIONS_OF_X[0]);
        holds("P 2y 2", ROTATIONS_OF_X[0]);
        holds("P 2' 2", ROTATIONS_OF_X[0]);
        holds("P -4 -2", negative(ROTATIONS_OF_X[0]));
        // the third one has no axis of its own
        fault("P 2 2 2", 7);
        fault("P 2x 2y 2", 9);
        fault("P 4 2 2a", 7);
    }

    private void secondHasPrime() {
        holds("P 3 2", PRIME_Z);
        lacks(SECOND_Z);
        holds("P 6 2a", with(PRIME_Z, 6, 0, 0));
        holds("P 3x 2", PRIME_X);
        lacks(SECOND_X);
        holds("P 1 -3y 1 2", PRIME_Y);
        holds("P 3* 2", PRIME_Z);
        fault("P 3 2 2", 7);
        fault("P 6 2 2", 7);
    }

    private void otherHasStar() {
        holds("P 2 3", STAR);
        holds("P 2 2 3", STAR);
        holds("P 2z 2x 2y 3", STAR);
        holds("P 1 2 1 3", STAR);
        holds("P 2 -3", negative(STAR));
        hasOrder("P 3* 3", 3);
        hasOrder("P 3* 3 3 3", 3);
        // of z it would be a group of three
        tooLarge("P 3 3");
        holds("P 4 3a", with(STAR, 6, 0, 0));
    }

    private void axisMustStand() {
        for (String before : new String[] {"P 2", "P 3", "P 4", "P 6", "P 3*", "P 1 2y"}) {
            fault(before + " 4", before.length() + 2);
            fault(before + " 6", before.length() + 2);
            fault(before + " -6", before.length() + 3);
        }
        for (char order : "246".toCharArray()) {
            fault("P 2 2 " + order, 7);
            fault("P 3 2 " + order, 7);
            fault("P 2 2 3 " + order, 9);
        }
        right("P 2 4z");
        right("P 2 2 2x");
        right("P 2 2 3 2y");
    }

    private void shiftLetters() {
        String letters = "abcnuvwd";
        int[][] wanted = {{6, 0, 0}, {0, 6, 0}, {0, 0, 6}, {6, 6, 6}, {3, 0, 0}, {0, 3, 0}, {0, 0, 3}, {3, 3, 3}};
        for (int i = 0; i < 8; i++) {
            hasOrder("P 1" + letters.charAt(i), i < 4 ? 2 : 4);
            yes("has its shift", has(shifted(wanted[i])));
        }
        for (char sign = 0; sign < 256; sign++) {
            if (letters.indexOf(sign) < 0 && sign != ' ') {
                fault("P 1" + sign, 3);
                fault("P 1a" + sign, 4);
            }
        }
    }

    private void oneDigit() {
        right("P 4");
        right("P 41");
        fault("P 411", 4);
        fault("P 4a1b2", 6);
        right("P 4a1b");
        right("P 41 1a");
        holds("P 4abc3", with(ROTATIONS_OF_Z[2], 6, 6, 3));
    }

    private void digitOfAxes() {
        right("P 3x1");
        right("P 4y1");
        right("P 6z1");
        right("P 31");
        fault("P 3*1", 4);
        fault("P 2'1", 4);
        fault("P 2\"1", 4);
        // * by default
        fault("P 2 31", 5);
        fault("P 3 31", 5);
        right("P 2x 3x1");
    }

    private void digitOfOrders() {
        fault("P 11", 3);
        fault("P 21", 3);
        fault("P 2x1", 4);
        fault("P 2 21", 5);
        right("P 31");
        right("P 41");
        right("P 61");
        right("P -61");
    }

    private void digitBounds() {
        for (char order : "346".toCharArray()) {
            for (char digit = '0'; digit <= '9'; digit++) {
                if (digit > '0' && digit < order) {
                    right("P " + order + digit);
                    right("P " + order + "y" + digit);
                } else {
                    fault("P " + order + digit, 3);
                    fault("P " + order + "y" + digit, 4);
                }
            }
        }
    }

    private void digitAlong() {
        for (int digit = 1; digit < 6; digit++) {
            if (digit < 3) {
                holds("P 3" + digit, with(ROTATIONS_OF_Z[1], 0, 0, 4 * digit));
                holds("P 3x" + digit, with(ROTATIONS_OF_X[1], 4 * digit, 0, 0));
            }
            if (digit < 4) {
                holds("P 4" + digit, with(ROTATIONS_OF_Z[2], 0, 0, 3 * digit));
                holds("P 4y" + digit, with(ROTATIONS_OF_Y[2], 0, 3 * digit, 0));
            }
            holds("P 6" + digit, with(ROTATIONS_OF_Z[3], 0, 0, 2 * digit));
            holds("P -6x" + digit, with(negative(ROTATIONS_OF_X[3]), 2 * digit, 0, 0));
        }
    }

    private void sumModulo12() {
        hasOrder("P 1uuuu", 1);
        hasOrder("P 1aa", 1);
        hasOrder("P 1nddn", 2);
        hasOrder("P 1uuua", 4);
        holds("P 4w3", with(ROTATIONS_OF_Z[2], 0, 0, 0));
        lacks(with(ROTATIONS_OF_Z[2], 0, 0, 3));
        holds("P 4cw3", with(ROTATIONS_OF_Z[2], 0, 0, 6));
        holds("P 65ccc", with(ROTATIONS_OF_Z[3], 0, 0, 4));
        holds("P -2nnna", with(negative(ROTATIONS_OF_Z[0]), 0, 6, 6));
    }

    private void rotations(char axis, int[][] wanted) {
        for (int i = 0; i < 4; i++) {
            holds("P " + ORDERS.charAt(i) + axis, wanted[i]);
            c.due("order", x.order(), ORDERS.charAt(i) - '0');
            lacks(negative(wanted[i]));
        }
    }

    private void axisBefore() {
        holds("P 3x 2'", PRIME_X);
        lacks(SECOND_X);
        holds("P 3y 2'", PRIME_Y);
        lacks(SECOND_Y);
        holds("P 3z 2'", PRIME_Z);
        lacks(SECOND_Z);
        holds("P 3x 2\"", SECOND_X);
        lacks(PRIME_X);
        holds("P 3y 2\"", SECOND_Y);
        lacks(PRIME_Y);
        holds("P 3z 2\"", SECOND_Z);
        lacks(PRIME_Z);
        // the latest of several
        holds("P 2x 2z 2'", PRIME_Z);
        lacks(PRIME_X);
        holds("P 2x 2y 2'", PRIME_Y);
        lacks(PRIME_X);
        // 1 and ' between are no such matrices
        holds("P 3x 1 2'", PRIME_X);
        hasOrder("P 3x 2' 2\"", 12);
        hasOrder("P 3y 2\" 1 2'", 12);
        hasOrder("P 3y -1 -2' 2\"", 24);
    }

    private void axisBeforeByDefault() {
        holds("P 2x 2y 2\"", SECOND_Y);
        lacks(SECOND_Z);
        // x of the second one by default
        holds("P 2 2 2'", PRIME_X);
        lacks(PRIME_Z);
        holds("P 4 2 3 2'", PRIME_X);
        hasOrder("P 2y 2 2\"", 8);
        yes("about x", has(SECOND_X));
        // z of the first one by default
        holds("P 3 2\"", SECOND_Z);
        hasOrder("P 3 1 2\" 2'", 12);
    }

    private void noAxisBefore() {
        hasOrder("P 2'", 2);
        yes("about z", has(PRIME_Z));
        hasOrder("P 2\"", 2);
        yes("about z", has(SECOND_Z));
        holds("P 1 2' 2\"", SECOND_Z);
        holds("P 3* 2'", PRIME_Z);
        c.due("order", x.order(), 6);
        // the axis that another symbol had is none before
        c.due("symbol", Checks.readSymbol(x, "P 2x"), 0);
        c.due("symbol", Checks.readSymbol(x, "P 2'"), 0);
        yes("about z again", has(PRIME_Z));
    }

    private void minusRotation() {
        for (int i = 0; i < 4; i++) {
            holds("P -" + ORDERS.charAt(i) + "x", negative(ROTATIONS_OF_X[i]));
        }
        hasOrder("P -1", 2);
        yes("all nine", has(-1, 0, 0, 0, -1, 0, 0, 0, -1));
        holds("P -3*", negative(STAR));
        holds("P -2'", negative(PRIME_Z));
        lacks(PRIME_Z);
        // the translation is as it was
        holds("P -2w", with(negative(ROTATIONS_OF_Z[0]), 0, 0, 3));
        lacks(with(negative(ROTATIONS_OF_Z[0]), 0, 0, 9));
        holds("P -41", with(negative(ROTATIONS_OF_Z[2]), 0, 0, 3));
    }

    private void firstByte() {
        fault("Q", 0);
        fault("xP 1", 0);
        fault("P 1q 1q", 3);
        fault("P 5 7 9", 2);
        fault("P 2xaq  2y", 5);
        fault("P 2 2yx 4", 6);
        fault("P 1 1 1 1 1 1", 10);
        fault("P 2x\u0000", 4);
    }

    private void faultAtEnd() {
        fault("", 0);
        fault(" ", 1);
        fault("-", 1);
        fault("  -", 3);
        fault("P", 1);
        fault("-P", 2);
        fault("P ", 2);
        fault("P -", 3);
        fault("P 1 -", 5);
        fault("P 2 2 2x -", 10);
    }

    private void faultOfAxis() {
        fault("P 2 4", 5);
        fault("P 2 4 ", 5);
        fault("P 2 4a", 5);
        fault("P 2 41", 5);
        fault("P 2 4'", 5);
        fault("P 2 4*", 5);
        fault("P 2 4-", 5);
        fault("P 2 2 2 1", 7);
        fault("P 2 2 2a 1", 7);
        fault("P 2 2 2*", 7);
        fault("P 2 2 -6", 8);
        fault("P 3 2 3 -4  ", 10);
    }

    private void one() {
        hasOrder("P 1", 1);
        yes("1 with 0 0 0", has(shifted(0, 0, 0)));
        for (String text : new String[] {"P 2yb", "P -1a", "R 32", "-I 4bd 2c"}) {
            holds(text, shifted(0, 0, 0));
        }
    }

    private void centring() {
        hasOrder("P 1", 1);
        hasOrder("A 1", 2);
        yes("0 6 6", has(shifted(0, 6, 6)));
        hasOrder("B 1", 2);
        yes("6 0 6", has(shifted(6, 0, 6)));
        hasOrder("C 1", 2);
        yes("6 6 0", has(shifted(6, 6, 0)));
        hasOrder("I 1", 2);
        yes("6 6 6", has(shifted(6, 6, 6)));
        hasOrder("F 1", 4);
        yes("0 6 6", has(shifted(0, 6, 6)));
        yes("6 0 6", has(shifted(6, 0, 6)));
        yes("6 6 0", has(shifted(6, 6, 0)));
        hasOrder("R 1", 3);
        yes("8 4 4", has(shifted(8, 4, 4)));
        yes("4 8 8", has(shifted(4, 8, 8)));
    }

    private void minusLetter() {
        hasOrder("-P 1", 2);
        yes("0 0 0", has(-1, 0, 0, 0, -1, 0, 0, 0, -1, 0, 0, 0));
        hasOrder("-F 1", 8);
        hasOrder("-R 1", 6);
        yes("with the centring", has(-1, 0, 0, 0, -1, 0, 0, 0, -1, 8, 4, 4));
        hasOrder("-P -1", 2);
        hasOrder("-P -1a", 4);
    }

    private void moreThan192() {
        hasOrder("R 1u 1v 1w", 192);
        hasOrder("P 3* 1u", 192);
        hasOrder("-F 4vw 2vw 3", 192);
        hasOrder("-R 3*", 162);
        // 216 is the next number that a group can have
        hasOrder("R 4", 108);
        tooLarge("-R 4");
        tooLarge("R 4 2");
        tooLarge("-P 3* 1u");
        tooLarge("-R 1u 1v 1w");
        tooLarge("-F 4ud 2vw 3 1a");
        // without an end
        tooLarge("P 4 6x");
        tooLarge("P 6 6x 6y -6z");
        tooLarge("-F 3 3*n 4xd 6yabc");
    }

    private void rowsGo() {
        merged("P 1", line(1, 2, 3, 100) + line(1, 2, 3, 300));
        c.due("rows", x.rows(), 1);
        c.due("symbol", Checks.readSymbol(x, "P 2y"), 0);
        c.due("order", x.order(), 2);
        c.due("rows", x.rows(), 0);
        c.dueThrow("row", INDEX, () -> x.row(0, 0));
        c.due("digits", x.digits(0), -1);
        c.due("digit", x.digit(1, 0), 0);
        c.due("complete", x.complete(3, 0), 0);
        c.due("reflections", x.reflections(), 2);
        // the same symbol once more is a symbol too
        x.merge();
        c.due("symbol", Checks.readSymbol(x, "P 2y"), 0);
        c.due("rows", x.rows(), 0);
    }

    private void placeOfFault() {
        c.due("at 0", symbol("x"), -1);
        c.due("at 1", symbol("Px"), -2);
        c.due("at 7999", symbol("P 1" + " ".repeat(7996) + "x"), -8000);
        c.due("at the end of all", symbol(" ".repeat(7999) + "P"), -8001);
    }

    private void groupAndRowsStay(String text, int answer) {
        merged("C 2y", line(1, 1, 3, 100) + line(-1, 1, -3, 300));
        c.due("symbol of " + text, Checks.readSymbol(x, text), answer);
        c.due("order", x.order(), 4);
        c.due("laue", x.laue(), 1);
        c.due("plain", x.plain(1), 2);
        yes("2y stays", has(with(ROTATIONS_OF_Y[0], 6, 6, 0)));
        c.due("rows", x.rows(), 1);
        numbersOfRow(0, 1, 1, 3, 2, 4, 0, 400, 200, 1, 400);
        c.due("R", x.digit(1, 0), 2);
        c.due("multiplicity", x.greatest(1, 1, 3, 3), 4);
        renew();
        c.due("symbol without a group", Checks.readSymbol(x, text), answer);
        c.due("order", x.order(), 0);
        c.due("laue", x.laue(), -1);
        c.dueThrow("merge", STATE, () -> x.merge());
    }

    private void staysAfterFault() {
        groupAndRowsStay("", -1);
        groupAndRowsStay("-F 4vw 2vw 3 q", -14);
        groupAndRowsStay("P 2 2 2", -8);
    }

    private void staysAfterTooLarge() {
        groupAndRowsStay("P 4 6x", -9001);
        groupAndRowsStay("-R 4", -9001);
    }
}
