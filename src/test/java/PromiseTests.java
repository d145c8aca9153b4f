import java.math.BigInteger;

/** Each promise by hand: ordinary inputs, the edges that the document names, wrong inputs. */
public final class PromiseTests {
    private static final Class<IllegalStateException> STATE = IllegalStateException.class;
    private static final Class<IllegalArgumentException> ARGUMENT = IllegalArgumentException.class;
    private static final Class<IndexOutOfBoundsException> INDEX = IndexOutOfBoundsException.class;
    private static final int FAR = Integer.MAX_VALUE;
    private static final int BELOW = Integer.MIN_VALUE;

    private final Checks c = new Checks();
    private ReflectionReducer x;

    public static void main(String[] args) {
        PromiseTests t = new PromiseTests();
        t.newObject();
        t.feed();
        t.end();
        t.symbolFaults();
        t.symbolAxes();
        t.symbolShifts();
        t.symbolKeeps();
        t.order();
        t.op();
        t.laue();
        t.plain();
        t.sent();
        t.absent();
        t.greatest();
        t.file();
        t.fileFaults();
        t.fileLimit();
        t.drop();
        t.reflections();
        t.merge();
        t.rows();
        t.row();
        t.digits();
        t.noQuotient();
        t.violations();
        t.complete();
        t.c.finish();
    }

    private void renew() {
        x = new ReflectionReducer();
    }

    private int symbol(String text) {
        return Checks.readSymbol(x, text);
    }

    private int file(String text) {
        return Checks.readFile(x, text);
    }

    private void fault(String text, int place) {
        c.due("symbol of " + text, symbol(text), -1 - place);
    }

    private void right(String text) {
        c.due("symbol of " + text, symbol(text), 0);
    }

    private void fileFault(String text, int place) {
        c.due("file of\n" + text + "\n", file(text), -1 - place);
    }

    /** Whether an operator with these numbers is in the group. */
    private boolean has(int... numbers) {
        for (int i = 0; i < x.order(); i++) {
            boolean same = true;
            for (int k = 0; k < numbers.length; k++) {
                same &= x.op(i, k) == numbers[k];
            }
            if (same) {
                return true;
            }
        }
        return false;
    }

    private void holds(String symbol, int... numbers) {
        right(symbol);
        c.due(symbol + " has its operator", has(numbers) ? 1 : 0, 1);
    }

    private void newObject() {
        renew();
        c.due("order", x.order(), 0);
        c.due("reflections", x.reflections(), 0);
        c.due("rows", x.rows(), 0);
        c.due("laue", x.laue(), -1);
        c.due("plain", x.plain(1), 0);
        c.due("violation", x.violation(0), -1);
        c.due("digits", x.digits(1), -1);
        c.due("symbol of an empty tape", x.symbol(), -1);
        c.due("file of an empty tape", x.file(), -1);
        c.dueThrow("end(1)", ARGUMENT, () -> { x.end(1); return 0; });
    }

    private void feed() {
        renew();
        for (int i = 1; i <= 400; i++) {
            c.due("feed", x.feed(0, 0, 0, 0, 0), 20 * i);
        }
        c.dueThrow("feed", STATE, () -> x.feed(0, 0, 0, 0, 0));
        x.end(7981);
        c.dueThrow("feed", STATE, () -> x.feed(0, 0, 0, 0, 0));
        x.end(7980);
        c.due("feed", x.feed(0, 0, 0, 0, 0), 8000);
        x.end(0);
        // "P 2x", "aaaa", "bbbb" and so on, each number's highest byte first
        c.due("feed", x.feed(0x50203278, 0x61616161, 0x20313131, 0x62626262, 0x78787878), 20);
        x.end(8);
        c.due("feed", x.feed(0x20313131, 0x62626262, 0x78787878, 0, 0), 28);
        c.due("symbol", x.symbol(), -1 - 10);
        c.due("feed", x.feed(0x50203279, 0x62202020, 0x20202020, 0x20202020, 0x20202020), 20);
        c.due("symbol", x.symbol(), 0);
        c.due("op", x.op(0, 10), 6);
        x.feed(0x502031ff, 0, 0, 0, 0);
        c.due("symbol", x.symbol(), -1 - 3);
    }

    private void end() {
        renew();
        c.dueThrow("end(-1)", ARGUMENT, () -> { x.end(-1); return 0; });
        c.dueThrow("end(min)", ARGUMENT, () -> { x.end(BELOW); return 0; });
        x.end(0);
        x.feed(0x50203120, 0, 0, 0, 0);
        c.dueThrow("end(21)", ARGUMENT, () -> { x.end(21); return 0; });
        x.end(20);
        c.dueThrow("end(max)", ARGUMENT, () -> { x.end(FAR); return 0; });
        x.end(4);
        c.dueThrow("end(5)", ARGUMENT, () -> { x.end(5); return 0; });
        c.due("symbol", x.symbol(), 0);
        c.dueThrow("end(1)", ARGUMENT, () -> { x.end(1); return 0; });
        x.end(0);
    }

    private void symbolFaults() {
        renew();
        fault("", 0);
        fault("   ", 3);
        fault("Q 1", 0);
        fault("- P 1", 1);
        fault("--P 1", 1);
        fault("P", 1);
        fault("P1", 1);
        fault("P  ", 3);
        fault("P -", 3);
        fault("P - 1", 3);
        fault("P 5", 2);
        fault("P 1x", 3);
        fault("P 1'", 3);
        fault("P 11", 3);
        fault("P 2*", 3);
        fault("P 21", 3);
        fault("P 3'", 3);
        fault("P 4\"", 3);
        fault("P 6*", 3);
        fault("P 2xx", 4);
        fault("P 2ax", 4);
        fault("P 2q", 3);
        fault("P 2aaaaa", 7);
        fault("P 33", 3);
        fault("P 30", 3);
        fault("P 44", 3);
        fault("P 66", 3);
        fault("P 412", 4);
        fault("P 4a1b2", 6);
        fault("P 4abcd1", 7);
        fault("P 3*1", 4);
        fault("P 2 31", 5);
        fault("P 2 2 2", 7);
        fault("P 2 2 2 ", 7);
        fault("P 2 2 2a", 7);
        fault("P 2 4", 5);
        fault("P 2 6a", 5);
        fault("P 3 4", 5);
        fault("P 2 1 4 3", 7);
        fault("P 2-2", 3);
        fault("P 1 1 1 1 1", 10);
        fault("P 1 1 1 1x", 9);
        fault("P 1 1 1 1  \n", 11);
        fault("P 1\n", 3);
        fault("P 1\u0000", 3);
        fault("p 1", 0);
        fault("P\t1", 1);
        right("P 1 1 1 1");
        right("     -P      1     -1      1   1      ");
    }

    private void symbolAxes() {
        renew();
        holds("P 2", -1, 0, 0, 0, -1, 0, 0, 0, 1);
        holds("P 2x", 1, 0, 0, 0, -1, 0, 0, 0, -1);
        holds("P 2y", -1, 0, 0, 0, 1, 0, 0, 0, -1);
        holds("P 2z", -1, 0, 0, 0, -1, 0, 0, 0, 1);
        holds("P 4x", 1, 0, 0, 0, 0, -1, 0, 1, 0);
        holds("P 4y", 0, 0, 1, 0, 1, 0, -1, 0, 0);
        holds("P 3", 0, -1, 0, 1, -1, 0, 0, 0, 1);
        holds("P 3x", 1, 0, 0, 0, 0, -1, 0, 1, -1);
        holds("P 3y", -1, 0, 1, 0, 1, 0, -1, 0, 0);
        holds("P 6", 1, -1, 0, 1, 0, 0, 0, 0, 1);
        holds("P 6y", 0, 0, 1, 0, 1, 0, -1, 0, 1);
        holds("P 3*", 0, 0, 1, 1, 0, 0, 0, 1, 0);
        holds("P -4", 0, 1, 0, -1, 0, 0, 0, 0, -1);
        holds("P 2'", 0, -1, 0, -1, 0, 0, 0, 0, -1);
        holds("P 2\"", 0, 1, 0, 1, 0, 0, 0, 0, -1);
        holds("P -2\"", 0, -1, 0, -1, 0, 0, 0, 0, 1);
        // the axis before, turned
        holds("P 2x 2'", -1, 0, 0, 0, 0, -1, 0, -1, 0);
        holds("P 2y 2\"", 0, 0, 1, 0, -1, 0, 1, 0, 0);
        holds("P 2x 1 2\"", -1, 0, 0, 0, 0, 1, 0, 1, 0);
        // the second has x by default, and is the axis before the third
        holds("P 2 2 2'", -1, 0, 0, 0, 0, -1, 0, -1, 0);
        // the latest is the axis before, be it the first by default or a written z
        holds("P 2 2'", 0, -1, 0, -1, 0, 0, 0, 0, -1);
        holds("P 2x 2z 2'", 0, -1, 0, -1, 0, 0, 0, 0, -1);
        c.due("and no other one", has(-1, 0, 0, 0, 0, -1, 0, -1, 0) ? 1 : 0, 0);
        // ' and * are no axis before
        holds("P 2y 2' 2\"", 0, 0, 1, 0, -1, 0, 1, 0, 0);
        holds("P 3* 2'", 0, -1, 0, -1, 0, 0, 0, 0, -1);
        // the second by default
        holds("P 2 2", 1, 0, 0, 0, -1, 0, 0, 0, -1);
        holds("P 4 2", 1, 0, 0, 0, -1, 0, 0, 0, -1);
        holds("P 3 2", 0, -1, 0, -1, 0, 0, 0, 0, -1);
        holds("P 6 2", 0, -1, 0, -1, 0, 0, 0, 0, -1);
        holds("P 3x 2", -1, 0, 0, 0, 0, -1, 0, -1, 0);
        holds("P 1 3 1 2", 0, -1, 0, -1, 0, 0, 0, 0, -1);
        holds("P 2 3", 0, 0, 1, 1, 0, 0, 0, 1, 0);
        holds("P 2 2 3", 0, 0, 1, 1, 0, 0, 0, 1, 0);
        holds("P 2y 2x 2z 3", 0, 0, 1, 1, 0, 0, 0, 1, 0);
        c.due("order", x.order(), 12);
        right("P 2' 2");
        c.due("2' then 2 by default about x has no end but eight", x.order(), 8);
    }

    private void symbolShifts() {
        renew();
        int[] wanted = {6, 0, 0, 0, 6, 0, 0, 0, 6, 6, 6, 6, 3, 0, 0, 0, 3, 0, 0, 0, 3, 3, 3, 3};
        String letters = "abcnuvwd";
        for (int i = 0; i < 8; i++) {
            holds("P 1" + letters.charAt(i), 1, 0, 0, 0, 1, 0, 0, 0, 1, wanted[3 * i], wanted[3 * i + 1], wanted[3 * i + 2]);
        }
        right("P 1aa");
        c.due("order of P 1aa", x.order(), 1);
        holds("P 1uuua", 1, 0, 0, 0, 1, 0, 0, 0, 1, 3, 0, 0);
        holds("P 31", 0, -1, 0, 1, -1, 0, 0, 0, 1, 0, 0, 4);
        holds("P 32", 0, -1, 0, 1, -1, 0, 0, 0, 1, 0, 0, 8);
        holds("P 4x1", 1, 0, 0, 0, 0, -1, 0, 1, 0, 3, 0, 0);
        holds("P 4y3", 0, 0, 1, 0, 1, 0, -1, 0, 0, 0, 9, 0);
        holds("P -43", 0, 1, 0, -1, 0, 0, 0, 0, -1, 0, 0, 9);
        holds("P 61", 1, -1, 0, 1, 0, 0, 0, 0, 1, 0, 0, 2);
        holds("P 65", 1, -1, 0, 1, 0, 0, 0, 0, 1, 0, 0, 10);
        holds("P 4w1", 0, -1, 0, 1, 0, 0, 0, 0, 1, 0, 0, 6);
        holds("P 4abd2", 0, -1, 0, 1, 0, 0, 0, 0, 1, 9, 9, 9);
        holds("P 3*n", 0, 0, 1, 1, 0, 0, 0, 1, 0, 6, 6, 6);
        String[] lattices = {"A", "B", "C", "I"};
        int[] centres = {0, 6, 6, 6, 0, 6, 6, 6, 0, 6, 6, 6};
        for (int i = 0; i < 4; i++) {
            holds(lattices[i] + " 1", 1, 0, 0, 0, 1, 0, 0, 0, 1, centres[3 * i], centres[3 * i + 1], centres[3 * i + 2]);
            c.due("order of " + lattices[i] + " 1", x.order(), 2);
        }
        holds("F 1", 1, 0, 0, 0, 1, 0, 0, 0, 1, 0, 6, 6);
        c.due("order of F 1", x.order(), 4);
        holds("R 1", 1, 0, 0, 0, 1, 0, 0, 0, 1, 8, 4, 4);
        c.due("order of R 1", x.order(), 3);
        holds("-P 1", -1, 0, 0, 0, -1, 0, 0, 0, -1, 0, 0, 0);
        holds("P -1a", -1, 0, 0, 0, -1, 0, 0, 0, -1, 6, 0, 0);
        c.due("order of P -1a", x.order(), 2);
    }

    private void symbolKeeps() {
        renew();
        right("P 2y");
        file(Checks.line(1, 2, 3, 100, 10) + Checks.line(-1, 2, -3, 300, 10));
        c.due("merge", x.merge(), 1);
        c.due("TOO_LARGE", symbol("P 4 6x"), ReflectionReducer.TOO_LARGE);
        c.due("rows stay", x.rows(), 1);
        right("F 1u 1v 1w 2");
        c.due("rows go", x.rows(), 0);
        c.due("digits go", x.digits(0), -1);
        c.due("reflections stay", x.reflections(), 2);
        right("P 2y");
        c.due("merge", x.merge(), 1);
        fault("P 2y q", 5);
        c.due("order stays", x.order(), 2);
        c.due("rows stay", x.rows(), 1);
        c.due("TOO_LARGE", symbol("-F 1u 1v 1w 3*"), ReflectionReducer.TOO_LARGE);
        c.due("TOO_LARGE of 2 to the 6, by 4", symbol("-P 1u 1v 1w 2y"), ReflectionReducer.TOO_LARGE);
        c.due("order stays", x.order(), 2);
        c.due("rows stay", x.rows(), 1);
        c.due("digits stay", x.digits(1), 1);
        c.due("the tape is empty", x.symbol(), -1);
        right("R 1u 1v 1w");
        c.due("order of R 1u 1v 1w", x.order(), 192);
        right("P 3* 1u");
        c.due("order of P 3* 1u", x.order(), 192);
        c.due("TOO_LARGE", symbol("-P 3* 1u"), ReflectionReducer.TOO_LARGE);
    }

    private void order() {
        renew();
        c.due("order", x.order(), 0);
        right("-F 4vw 2vw 3");
        c.due("order", x.order(), 192);
        right("P 1");
        c.due("order", x.order(), 1);
        right("-P 6 2");
        c.due("order", x.order(), 24);
    }

    private void op() {
        renew();
        c.dueThrow("op", INDEX, () -> x.op(0, 0));
        right("C 2y");
        int[] wanted = {-1, 0, 0, 0, 1, 0, 0, 0, -1, 0, 0, 0, -1, 0, 0, 0, 1, 0, 0, 0, -1, 6, 6, 0,
            1, 0, 0, 0, 1, 0, 0, 0, 1, 0, 0, 0, 1, 0, 0, 0, 1, 0, 0, 0, 1, 6, 6, 0};
        for (int i = 0; i < wanted.length; i++) {
            c.due("op " + i / 12 + " " + i % 12, x.op(i / 12, i % 12), wanted[i]);
        }
        c.dueThrow("op", INDEX, () -> x.op(4, 0));
        c.dueThrow("op", INDEX, () -> x.op(-1, 0));
        c.dueThrow("op", INDEX, () -> x.op(0, 12));
        c.dueThrow("op", INDEX, () -> x.op(0, -1));
        c.dueThrow("op", INDEX, () -> x.op(FAR, BELOW));
    }

    private void laue() {
        renew();
        String[] symbols = {"-P 1", "P 2y", "P 2 2", "P -4", "P 4 -2", "P -3", "P 3 -2", "P -6", "P -6 2", "-I 2 2 3", "F -4 2 3"};
        for (int i = 0; i < symbols.length; i++) {
            right(symbols[i]);
            c.due("laue of " + symbols[i], x.laue(), i);
        }
        right("P -2y");
        c.due("laue of P -2y", x.laue(), 1);
    }

    private void plain() {
        renew();
        c.due("plain", x.plain(-1), 0);
        right("-R 3 1a");
        c.due("plain 1", x.plain(1), 3 * 4);
        c.due("plain -1", x.plain(-1), 3 * 4);
        right("F 2");
        c.due("plain 1", x.plain(1), 4);
        c.due("plain -1", x.plain(-1), 0);
        c.due("plain 0", x.plain(0), 0);
        c.due("plain 2", x.plain(2), 0);
        c.due("plain min", x.plain(BELOW), 0);
    }

    private void sent() {
        renew();
        c.dueThrow("sent before a group", INDEX, () -> x.sent(0, 200, 0, 0, 0));
        right("P 31");
        // The operators: 3 2 twice turned (-1 1 0, -1 0 0), 3 1 (0 -1 0, 1 -1 0), 1.
        int[] first = {-3, 1, 5, 4};
        int[] second = {2, -3, 5, 8};
        for (int what = 0; what < 4; what++) {
            c.due("sent 0 " + what, x.sent(0, 1, 2, 5, what), first[what]);
            c.due("sent 1 " + what, x.sent(1, 1, 2, 5, what), second[what]);
        }
        c.due("phase", x.sent(1, 0, 0, -1, 3), 8);
        c.due("far", x.sent(1, -127, 127, 127, 1), 0);
        c.due("far", x.sent(0, 127, 127, 127, 0), -254);
        c.dueThrow("sent", INDEX, () -> x.sent(3, 0, 0, 0, 0));
        c.dueThrow("sent", INDEX, () -> x.sent(-1, 0, 0, 0, 0));
        c.dueThrow("sent", INDEX, () -> x.sent(0, 0, 0, 0, 4));
        c.dueThrow("sent", INDEX, () -> x.sent(0, 128, 0, 0, -1));
        c.dueThrow("sent", ARGUMENT, () -> x.sent(0, 128, 0, 0, 0));
        c.dueThrow("sent", ARGUMENT, () -> x.sent(0, 0, -128, 0, 3));
        c.dueThrow("sent", ARGUMENT, () -> x.sent(2, 0, 0, BELOW, 0));
    }

    private void absent() {
        renew();
        c.dueThrow("absent", STATE, () -> x.absent(500, 0, 0));
        right("P 61");
        for (int l = -12; l <= 12; l++) {
            c.due("absent 0 0 " + l, x.absent(0, 0, l), l % 6 == 0 ? 0 : 1);
            c.due("absent 1 0 " + l, x.absent(1, 0, l), 0);
        }
        right("R 3");
        c.due("absent 1 0 0", x.absent(1, 0, 0), 1);
        c.due("absent 1 0 1", x.absent(1, 0, 1), 0);
        c.due("absent -1 0 1", x.absent(-1, 0, 1), 1);
        right("F 1");
        c.due("absent 1 1 1", x.absent(1, 1, 1), 0);
        c.due("absent 2 1 1", x.absent(2, 1, 1), 1);
        c.due("absent 127 127 -127", x.absent(127, 127, -127), 0);
        c.dueThrow("absent", ARGUMENT, () -> x.absent(128, 0, 0));
        c.dueThrow("absent", ARGUMENT, () -> x.absent(0, -128, 0));
        c.dueThrow("absent", ARGUMENT, () -> x.absent(0, 0, FAR));
    }

    private void greatest() {
        renew();
        c.dueThrow("greatest", STATE, () -> x.greatest(500, 0, 0, 9));
        right("P 3");
        // 1 2 5 and -3 1 5 and 2 -3 5, and with all signs changed
        c.due("greatest h", x.greatest(1, 2, 5, 0), 3);
        c.due("greatest k", x.greatest(1, 2, 5, 1), -1);
        c.due("greatest l", x.greatest(1, 2, 5, 2), -5);
        c.due("multiplicity", x.greatest(1, 2, 5, 3), 6);
        c.due("multiplicity", x.greatest(0, 0, 5, 3), 2);
        c.due("multiplicity", x.greatest(0, 0, 0, 3), 1);
        c.due("greatest of 127 127 0", x.greatest(127, 127, 0, 0), 254);
        right("P 4 2 3");
        c.due("greatest h", x.greatest(-1, 0, -7, 0), 7);
        c.due("greatest k", x.greatest(-1, 0, -7, 1), 1);
        c.due("greatest l", x.greatest(-1, 0, -7, 2), 0);
        c.due("multiplicity", x.greatest(1, 2, 3, 3), 48);
        c.due("multiplicity", x.greatest(1, 1, 3, 3), 24);
        c.due("multiplicity", x.greatest(1, 1, 1, 3), 8);
        c.due("multiplicity", x.greatest(0, 1, 0, 3), 6);
        c.dueThrow("greatest", ARGUMENT, () -> x.greatest(128, 0, 0, 9));
        c.dueThrow("greatest", ARGUMENT, () -> x.greatest(0, -128, 0, 0));
        c.dueThrow("greatest", ARGUMENT, () -> x.greatest(0, 0, 128, 0));
        c.dueThrow("greatest", INDEX, () -> x.greatest(0, 0, 0, 4));
        c.dueThrow("greatest", INDEX, () -> x.greatest(0, 0, 0, -1));
    }

    private void file() {
        renew();
        c.due("file", file("-127 127  -099999.9999999.99\n0000-00- 1".substring(0, 28)), 1);
        int[] wanted = {-127, 127, 0, 9999999, 9999999};
        for (int i = 0; i < 5; i++) {
            c.due("reflection 0 " + i, x.reflection(0, i), wanted[i]);
        }
        c.due("file", file("   1   2   3-9999.99    0.00\n   1   2  -3   -0.05    0.07\n"), 2);
        c.due("intensity", x.reflection(1, 3), -999999);
        c.due("intensity", x.reflection(2, 3), -5);
        c.due("sigma", x.reflection(2, 4), 7);
        c.due("file of an end alone", file("   0   0   0    1.00    1.00"), 0);
        c.due("file of an end alone", file("   0   0  -0    1.00    1.00\n"), 0);
        c.due("file with an end", file(Checks.line(1, 0, 0, 1, 1) + Checks.line(0, 0, 0, 1, 1)), 1);
        c.due("reflections", x.reflections(), 4);
        c.due("the tape is empty", x.file(), -1);
        right("P 1");
        c.due("merge", x.merge(), 4);
        c.due("file", file(Checks.line(1, 5, 0, 1, 1)), 1);
        c.due("rows stay", x.rows(), 4);
        fileFault("x", 0);
        c.due("rows stay", x.rows(), 4);
        c.due("no group is needed, nor is it changed", x.order(), 1);
    }

    private void fileFaults() {
        renew();
        String good = "   1   2   3    1.00    0.10";
        fileFault("", 0);
        fileFault("\n", 0);
        fileFault(good.substring(0, 27), 27);
        fileFault(good + " ", 28);
        fileFault(good + "\n ", 30);
        fileFault(good + "\n\n", 29);
        fileFault(good + "\n" + good.substring(0, 20), 49);
        fileFault(good + "\r\n" + good, 28);
        fileFault(good + good, 28);
        String[] columns = {"    ", "   -", " -1x", "-  1", "1   ", "--11", "+  1", " 128", "-128", "9999", "1-11", "   x", "0128",
            "  :1", " 1/1"};
        int[] places = {3, 3, 3, 1, 1, 1, 0, 3, 3, 3, 1, 3, 3, 2, 2};
        for (int i = 0; i < columns.length; i++) {
            for (int at = 0; at < 12; at += 4) {
                fileFault(good.substring(0, at) + columns[i] + good.substring(at + 4), at + places[i]);
            }
        }
        String[] sizes = {"     .00", "    -.00", "   - .00", "  1  .00", "    1,00", "    1.0 ", "    1. 0", "    1.-0", "--111.00", "   1.000", "123456.0", "     1.0"};
        int[] sizePlaces = {4, 4, 4, 3, 5, 7, 6, 6, 1, 4, 5, 4};
        for (int i = 0; i < sizes.length; i++) {
            fileFault(good.substring(0, 12) + sizes[i] + good.substring(20), 12 + sizePlaces[i]);
            boolean minus = sizes[i].contains("-") && sizes[i].indexOf('-') < 5;
            fileFault(good.substring(0, 20) + sizes[i], 20 + (minus ? sizes[i].indexOf('-') : sizePlaces[i]));
        }
        fileFault(" 128   x   3    1.00    0.10", 3);
        fileFault(good + "\n 128", 32);
        fileFault(good + "\n 12", 32);
        String end = "   0   0   0    1.00    1.00";
        fileFault(end + "\n" + good, 29);
        fileFault(end + "\n" + end, 29);
        fileFault(end + "\nx", 29);
        fileFault(end + "\n    ", 29);
        fileFault(end + "\n\n", 29);
        fileFault(good + "\n" + end + "\n ", 58);
        fileFault("   0   0   0    1.00     .00", 24);
        c.due("none came", x.reflections(), 0);
    }

    /** More files than 512 calls can feed: what the program does then is its own care. */
    private void fileLimit() {
        renew();
        StringBuilder text = new StringBuilder();
        for (int i = 0; i < 250; i++) {
            text.append(Checks.line(i % 100 - 50, i / 100 + 1, 5, i, 1));
        }
        for (int i = 1; i <= 11; i++) {
            c.due("file " + i, file(text.toString()), 250);
        }
        fileFault(text + Checks.line(1, 1, 1, 1, 1), 250 * 29);
        c.due("reflections", x.reflections(), 2750);
        c.due("file 12", file(text + Checks.line(0, 0, 0, 0, 0)), 250);
        c.due("an end alone has room", file(Checks.line(0, 0, 0, 0, 0)), 0);
        fileFault(Checks.line(1, 1, 1, 1, 1), 0);
        c.due("reflections", x.reflections(), 3000);
        right("P 1");
        c.due("merge", x.merge(), 250);
        c.due("n", x.row(0, 3), 12);
        c.due("drop", x.drop(), 3000);
    }

    private void drop() {
        renew();
        c.due("drop", x.drop(), 0);
        right("P 1");
        file(Checks.line(1, 1, 1, 1, 1) + Checks.line(1, 1, 1, 3, 1));
        x.merge();
        c.due("digits", x.digits(0), 1);
        c.due("drop", x.drop(), 2);
        c.due("reflections", x.reflections(), 0);
        c.due("rows", x.rows(), 0);
        c.due("digits", x.digits(0), -1);
        c.due("digit", x.digit(0, 0), 0);
        c.due("the group stays", x.order(), 1);
        c.due("drop", x.drop(), 0);
    }

    private void reflections() {
        renew();
        file(Checks.line(1, -2, 3, -405, 6));
        file(Checks.line(7, 8, 9, 1000, 11) + Checks.line(0, 0, 0, 0, 0));
        c.due("reflections", x.reflections(), 2);
        int[] wanted = {1, -2, 3, -405, 6, 7, 8, 9, 1000, 11};
        for (int i = 0; i < wanted.length; i++) {
            c.due("reflection", x.reflection(i / 5, i % 5), wanted[i]);
        }
        c.dueThrow("reflection", INDEX, () -> x.reflection(2, 0));
        c.dueThrow("reflection", INDEX, () -> x.reflection(-1, 0));
        c.dueThrow("reflection", INDEX, () -> x.reflection(0, 5));
        c.dueThrow("reflection", INDEX, () -> x.reflection(0, -1));
        c.dueThrow("reflection", INDEX, () -> x.reflection(BELOW, FAR));
    }

    private void merge() {
        renew();
        c.dueThrow("merge", STATE, () -> x.merge());
        file(Checks.line(2, 0, 0, 100, 1) + Checks.line(0, 0, 1, 200, 1) + Checks.line(0, -2, 0, 300, 1));
        c.dueThrow("merge", STATE, () -> x.merge());
        right("P 1");
        c.due("merge", x.merge(), 3);
        right("P 4 2 3");
        c.due("merge", x.merge(), 2);
        c.due("merge again", x.merge(), 2);
        file(Checks.line(-1, 0, 0, 100, 1) + Checks.line(5, 5, 5, 1, 1));
        c.due("rows as they were", x.rows(), 2);
        c.due("n", x.row(0, 3), 1);
        c.due("merge", x.merge(), 3);
        c.due("n", x.row(0, 3), 2);
        x.drop();
        c.due("merge of none", x.merge(), 0);
    }

    private void rows() {
        renew();
        c.due("rows", x.rows(), 0);
        right("P 1");
        file(Checks.line(0, 0, -3, 100, 1) + Checks.line(0, 1, -5, 200, 1) + Checks.line(2, -7, 1, 1, 1) + Checks.line(2, -8, 1, 1, 1));
        c.due("rows", x.rows(), 0);
        x.merge();
        c.due("rows", x.rows(), 4);
        int[] wanted = {0, 0, 3, 0, 1, -5, 2, -8, 1, 2, -7, 1};
        for (int i = 0; i < wanted.length; i++) {
            c.due("row " + i / 3 + " " + i % 3, x.row(i / 3, i % 3), wanted[i]);
        }
        x.violations(1);
        c.due("rows stay", x.rows(), 4);
        right("P 1");
        c.due("rows go", x.rows(), 0);
    }

    private void row() {
        renew();
        c.dueThrow("row", INDEX, () -> x.row(0, 0));
        right("P 2yb");
        file(Checks.line(0, 3, 0, -400, 1) + Checks.line(0, -3, 0, 100, 1) + Checks.line(0, 3, 0, -300, 1) + Checks.line(0, 3, 0, 0, 1)
            + Checks.line(4, 0, 0, -50, 1) + Checks.line(-4, 0, 0, 50, 1));
        c.due("merge", x.merge(), 2);
        long[] first = {0, 3, 0, 4, 2, 1, -600, -150, 1, 2 * (1000 + 600)};
        long[] second = {4, 0, 0, 2, 2, 0, 0, 0, 1, 200};
        for (int what = 0; what < 10; what++) {
            c.due("row 0 " + what, x.row(0, what), first[what]);
            c.due("row 1 " + what, x.row(1, what), second[what]);
        }
        x.drop();
        file(Checks.line(0, 0, 1, 9999999, 1) + Checks.line(0, 0, 1, -999999, 1) + Checks.line(0, 0, 1, 9999999, 1));
        x.merge();
        c.due("S", x.row(0, 6), 18999999);
        c.due("mean", x.row(0, 7), 6333333);
        c.due("of", x.row(0, 8), 1);
        c.due("spread", x.row(0, 9), 3L * (9999999 + 999999) * 4 / 3);
        x.drop();
        file(Checks.line(0, 0, 1, -5, 1) + Checks.line(0, 0, 1, -1, 1) + Checks.line(0, 0, 1, -2, 1) + Checks.line(0, 0, 1, -2, 1));
        x.merge();
        c.due("mean of -10 / 4", x.row(0, 7), -5);
        c.due("of", x.row(0, 8), 2);
        c.dueThrow("row", INDEX, () -> x.row(1, 0));
        c.dueThrow("row", INDEX, () -> x.row(-1, 0));
        c.dueThrow("row", INDEX, () -> x.row(0, 10));
        c.dueThrow("row", INDEX, () -> x.row(0, -1));
    }

    private void digits() {
        renew();
        right("P 1");
        file(Checks.line(1, 0, 0, 100, 1) + Checks.line(1, 0, 0, 200, 1) + Checks.line(-1, 0, 0, 400, 1));
        x.merge();
        // |300 - 700| + |600 - 700| + |1200 - 700| = 1000; a third of it by 700 is 10 / 21
        c.due("digits 0", x.digits(0), 1);
        c.due("digit 0", x.digit(0, 0), 10);
        c.due("digit 1", x.digit(1, 0), 21);
        c.due("beyond", x.digit(1, 1), 0);
        c.due("beyond", x.digit(1, FAR), 0);
        c.due("below", x.digit(1, -1), 0);
        c.due("below", x.digit(0, BELOW), 0);
        c.dueThrow("digits", INDEX, () -> x.digits(2));
        c.dueThrow("digits", INDEX, () -> x.digits(-1));
        c.dueThrow("digit", INDEX, () -> x.digit(2, 0));
        c.dueThrow("digit", INDEX, () -> x.digit(-1, 0));
        x.drop();
        file(Checks.line(1, 0, 0, 250, 1) + Checks.line(-1, 0, 0, 250, 1));
        x.merge();
        c.due("digits of 0", x.digits(0), 0);
        c.due("digit of 0", x.digit(0, 0), 0);
        c.due("digits of 1", x.digits(1), 1);
        c.due("digit of 1", x.digit(1, 0), 1);
        x.drop();
        // 23 * 29 * 31 * 37 * 41 * 43 * 47 has more than 32 bits.
        int[] sizes = {23, 29, 31, 37, 41, 43, 47};
        StringBuilder text = new StringBuilder();
        for (int i = 0; i < sizes.length; i++) {
            for (int k = 0; k < sizes[i]; k++) {
                text.append(Checks.line(i, 1, 0, k == 0 ? 9999991 : 0, 1));
            }
        }
        file(text.toString());
        x.merge();
        // R is the sum of 2 I (n - 1) / n, by 7 I: (7 - sum of 1 / n) * 2 / 7
        BigInteger product = BigInteger.ONE;
        BigInteger sum = BigInteger.ZERO;
        for (int size : sizes) {
            BigInteger n = BigInteger.valueOf(size);
            sum = sum.multiply(n).add(product.multiply(BigInteger.valueOf(2 * (size - 1))));
            product = product.multiply(n);
        }
        BigInteger bottom = product.multiply(BigInteger.valueOf(sizes.length));
        BigInteger common = sum.gcd(bottom);
        for (int k = 0; k < 3; k++) {
            c.due("wide numerator", x.digit(0, k), sum.divide(common).shiftRight(32 * k).intValue());
            c.due("wide denominator", x.digit(1, k), bottom.divide(common).shiftRight(32 * k).intValue());
        }
        c.due("wide digits", x.digits(1), 2);
    }

    private void noQuotient() {
        renew();
        c.due("digits", x.digits(0), -1);
        c.due("digit", x.digit(1, 0), 0);
        c.dueThrow("digits", INDEX, () -> x.digits(2));
        c.dueThrow("digit", INDEX, () -> x.digit(3, 0));
        right("P 2yb");
        file(Checks.line(1, 0, 0, 100, 1));
        x.merge();
        c.due("a row of one", x.digits(0), -1);
        file(Checks.line(0, 1, 0, 100, 1) + Checks.line(0, 1, 0, 300, 1));
        x.merge();
        c.due("an absent row", x.digits(0), -1);
        file(Checks.line(1, 1, 0, 100, 1) + Checks.line(1, 1, 0, -100, 1));
        x.merge();
        c.due("a sum of 0", x.digits(1), -1);
        c.due("a sum of 0", x.digit(0, 0), 0);
        file(Checks.line(1, 1, 0, -1, 1));
        x.merge();
        c.due("a sum below 0", x.digits(1), -1);
        file(Checks.line(1, 1, 0, 2, 1));
        x.merge();
        c.due("a sum of 1", x.digits(1), 1);
        x.drop();
        x.merge();
        c.due("no rows", x.digits(1), -1);
    }

    private void violations() {
        renew();
        c.dueThrow("violations", STATE, () -> x.violations(-1));
        right("P 2yb");
        c.due("violations", x.violations(0), 0);
        c.due("violation", x.violation(0), -1);
        file(Checks.line(0, 1, 0, 301, 100) + Checks.line(0, 2, 0, 900, 1) + Checks.line(0, -3, 0, 300, 100) + Checks.line(1, 1, 0, 900, 1)
            + Checks.line(0, 5, 0, 1, 0) + Checks.line(0, 5, 0, 0, 0) + Checks.line(0, 5, 0, -1, 0) + Checks.line(0, 5, 0, 9999999, 9999999));
        c.due("violations(3)", x.violations(3), 2);
        c.due("violation 0", x.violation(0), 0);
        c.due("violation 1", x.violation(1), 4);
        c.due("violation 2", x.violation(2), -1);
        c.due("violation -1", x.violation(-1), -1);
        c.due("violation min", x.violation(BELOW), -1);
        c.dueThrow("violations", ARGUMENT, () -> x.violations(101));
        c.dueThrow("violations", ARGUMENT, () -> x.violations(-1));
        x.drop();
        right("P 1");
        c.due("as it was", x.violation(1), 4);
        file(Checks.line(0, 5, 0, 1, 0));
        c.due("as it was", x.violation(1), 4);
        c.due("violations(0)", x.violations(0), 0);
        c.due("violation", x.violation(0), -1);
        x.drop();
        right("F 1");
        file(Checks.line(0, 1, 0, 9999999, 99999) + Checks.line(0, 1, 0, 9999999, 100000));
        c.due("violations(100)", x.violations(100), 1);
        c.due("violations(0)", x.violations(0), 2);
    }

    private void complete() {
        renew();
        c.dueThrow("complete", STATE, () -> x.complete(0, 2));
        right("P 1");
        c.due("all", x.complete(1, 1), 13);
        c.due("all", x.complete(12, 1), (25 * 25 * 25 - 1) / 2);
        right("I 1");
        c.due("all of I", x.complete(1, 1), 6);
        right("P 4 2 3");
        c.due("all", x.complete(2, 1), 9);
        c.due("none of them", x.complete(2, 0), 0);
        file(Checks.line(0, 0, -1, 1, 1) + Checks.line(1, 0, 0, 1, 1) + Checks.line(0, 2, 2, 1, 1) + Checks.line(3, 0, 0, 1, 1));
        c.due("not merged yet", x.complete(2, 0), 0);
        x.merge();
        c.due("two", x.complete(2, 0), 2);
        c.due("one", x.complete(1, 0), 1);
        c.due("three", x.complete(12, 0), 3);
        // 2 -1 of P 3 is 1 1 by another name: it counts from 2 on.
        right("P 3");
        c.due("rows went", x.complete(12, 0), 0);
        x.drop();
        file(Checks.line(1, 1, 0, 1, 1));
        x.merge();
        c.due("greatest of 1 1 0", x.row(0, 0), 2);
        c.due("beyond", x.complete(1, 0), 0);
        c.due("within", x.complete(2, 0), 1);
        right("P 2yb");
        x.drop();
        file(Checks.line(0, 1, 0, 1, 1) + Checks.line(0, 2, 0, 1, 1));
        x.merge();
        c.due("not the absent one", x.complete(2, 0), 1);
        c.dueThrow("complete", ARGUMENT, () -> x.complete(0, 2));
        c.dueThrow("complete", ARGUMENT, () -> x.complete(13, 0));
        c.dueThrow("complete", ARGUMENT, () -> x.complete(BELOW, 0));
        c.dueThrow("complete", INDEX, () -> x.complete(1, 2));
        c.dueThrow("complete", INDEX, () -> x.complete(1, -1));
    }
}
