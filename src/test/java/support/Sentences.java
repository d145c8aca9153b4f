import java.util.Arrays;

/** Sentences of the document that name a boundary case, each with a test of its own. */
abstract class Sentences {
    interface Test {
        void run();
    }

    static final Class<IllegalStateException> STATE = IllegalStateException.class;
    static final Class<IllegalArgumentException> ARGUMENT = IllegalArgumentException.class;
    static final Class<IndexOutOfBoundsException> INDEX = IndexOutOfBoundsException.class;
    static final int MOST = Integer.MAX_VALUE;
    static final int LEAST = Integer.MIN_VALUE;

    final Checks c = new Checks();
    ReflectionReducer x;

    /** Runs the test of one sentence, which begins with a new object. */
    void sentence(String words, Test test) {
        c.begin(words);
        renew();
        int before = c.countMade();
        try {
            test.run();
        } catch (RuntimeException e) {
            c.fail("stopped by " + e + " " + Arrays.toString(e.getStackTrace()));
        }
        if (c.countMade() == before) {
            c.fail("has a test without an answer");
        }
    }

    void renew() {
        x = new ReflectionReducer();
    }

    void yes(String what, boolean is) {
        c.due(what, is ? 1 : 0, 1);
    }

    // ---- symbols: each one is read by a new object, so that no run is long

    int symbol(String text) {
        renew();
        return Checks.readSymbol(x, text);
    }

    void right(String text) {
        c.due("symbol of <" + text + ">", symbol(text), 0);
    }

    void fault(String text, int place) {
        c.due("symbol of <" + text + ">", symbol(text), -1 - place);
    }

    void tooLarge(String text) {
        c.due("symbol of <" + text + ">", symbol(text), ReflectionReducer.TOO_LARGE);
    }

    void hasOrder(String text, int order) {
        right(text);
        c.due("order of " + text, x.order(), order);
    }

    /** Whether the group has an operator that begins with these numbers. */
    boolean has(int... numbers) {
        for (int i = 0; i < x.order(); i++) {
            int k = 0;
            while (k < numbers.length && x.op(i, k) == numbers[k]) {
                k++;
            }
            if (k == numbers.length) {
                return true;
            }
        }
        return false;
    }

    void holds(String text, int... numbers) {
        right(text);
        yes(text + " has " + Arrays.toString(numbers), has(numbers));
    }

    void lacks(int... numbers) {
        yes("and has not " + Arrays.toString(numbers), !has(numbers));
    }

    // ---- files

    int file(String text) {
        return Checks.readFile(x, text);
    }

    void taken(String text, int reflections) {
        c.due("file of\n" + text + "\n", file(text), reflections);
    }

    void fileFault(String text, int place) {
        renew();
        c.due("file of\n" + text + "\n", file(text), -1 - place);
        c.due("reflections", x.reflections(), 0);
    }

    static String line(int h, int k, int l, int intensity) {
        return Checks.line(h, k, l, intensity, 100);
    }

    /** The same row several times. */
    static String lines(int times, int h, int k, int l, int intensity) {
        return line(h, k, l, intensity).repeat(times);
    }

    void numbersOfRow(int i, long... wanted) {
        for (int what = 0; what < wanted.length; what++) {
            c.due("row " + i + " " + what, x.row(i, what), wanted[what]);
        }
    }

    void numbersOfReflection(int i, int... wanted) {
        for (int what = 0; what < wanted.length; what++) {
            c.due("reflection " + i + " " + what, x.reflection(i, what), wanted[what]);
        }
    }

    /** A new object with a group and merged reflections. */
    void merged(String symbol, String file) {
        right(symbol);
        yes("file", file(file) >= 0);
        x.merge();
    }
}
