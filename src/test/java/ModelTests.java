import java.nio.charset.StandardCharsets;
import java.util.Arrays;
import java.util.Random;

/** Runs of calls on the program and on the model, which have to answer the same. */
public final class ModelTests {
    private static final String[] KNOWN = {
        "P 1", "-P 1", "P 2y", "P 2yb", "C 2y", "-P 2ybc", "-C 2yc", "P 2ac 2ab", "-P 2ab 2bc 3", "F 2 2", "-F 2uv 2vw",
        "I 2b 2c", "P 4w", "P 41 2c 3", "I 4bw", "-P 4a 2b", "-I 4bd 2", "P -4 -2ab", "P 31", "P 32 2\"", "R 3", "-R 3 2\"c",
        "P 3 2'", "-P 3 2c", "P 61", "P 65 2", "-P 6c 2c", "P -6c 2c", "P 2 2 3", "I 2 2 3", "-F 2uv 2vw 3", "-I 2b 2c 3",
        "P 4n 2 3", "F 4d 2 3", "-P 4a 2bc 3", "-F 4vw 2vw 3", "-F 4ud 2vw 3", "-I 4bd 2c 3", "P 4bd 2ab 3", "P 4 6x",
        "R 1u 1v 1w", "F 1u 1v 1w", "P 1u 1v 1w 2", "P 6x 2 3*", "P 3x 2\"", "P 3y 2'", "P 2x 2' 2\"", "P 2x 2z 2'", "P 1a 2 1b 2'",
        "A -1n", "B 2xw", "P 3* 2z", "P 3* 3", "P 3 3", "P 6 3", "-P 3* 2'", "P 2 -3 4x", "P 64aaa", "P 4a2b",
    };

    private final Checks checks = new Checks();
    private ReflectionReducer x;
    private Model m;

    public static void main(String[] args) {
        ModelTests t = new ModelTests();
        t.eachKnownSymbol();
        t.allBeginningsOfSymbols();
        t.randomSymbols();
        t.brokenFiles();
        t.randomRuns();
        t.wideQuotients();
        t.checks.finish();
    }

    private void renew() {
        x = new ReflectionReducer();
        m = new Model();
    }

    private void same(String call, Checks.Call ours, Checks.Call models) {
        String got = Checks.outcome(ours);
        String want = Checks.outcome(models);
        checks.due(call, 1, 1);
        if (!got.equals(want)) {
            checks.fail(call + " answered " + got + ", the model " + want);
        }
    }

    private void put(String text) {
        byte[] bytes = text.getBytes(StandardCharsets.ISO_8859_1);
        byte[] b = Arrays.copyOf(bytes, (bytes.length + 19) / 20 * 20);
        same("end(0)", () -> { x.end(0); return 0; }, () -> { m.end(0); return 0; });
        for (int i = 0; i < b.length; i += 20) {
            int[] n = {Checks.four(b, i), Checks.four(b, i + 4), Checks.four(b, i + 8), Checks.four(b, i + 12),
                Checks.four(b, i + 16)};
            same("feed", () -> x.feed(n[0], n[1], n[2], n[3], n[4]), () -> m.feed(n));
        }
        same("end", () -> { x.end(bytes.length); return 0; }, () -> { m.end(bytes.length); return 0; });
    }

    private void symbol(String text) {
        put(text);
        same("symbol of " + text, () -> x.symbol(), () -> m.symbol());
    }

    private void file(String text) {
        put(text);
        same("file of\n" + text + "\n", () -> x.file(), () -> m.file());
    }

    private void wholeGroup(String text) {
        same(text + ": order", () -> x.order(), () -> m.group.size());
        same(text + ": laue", () -> x.laue(), () -> m.laue());
        for (int sign = -2; sign <= 2; sign++) {
            int s = sign;
            same(text + ": plain " + s, () -> x.plain(s), () -> m.plain(s));
        }
        for (int i = -1; i <= m.group.size(); i++) {
            for (int k = -1; k <= 12; k++) {
                int a = i;
                int b = k;
                same(text + ": op " + a + " " + b, () -> x.op(a, b), () -> m.op(a, b));
            }
        }
    }

    private void indices(String text, Random random, int count) {
        for (int n = 0; n < count; n++) {
            int most = n % 3 == 0 ? 2 : n % 3 == 1 ? 12 : 128;
            int h = random.nextInt(2 * most + 1) - most;
            int k = n % 5 == 0 ? 0 : random.nextInt(2 * most + 1) - most;
            int l = n % 7 == 0 ? h : random.nextInt(2 * most + 1) - most;
            int i = random.nextInt(m.group.size() + 2) - 1;
            int what = random.nextInt(6) - 1;
            String index = text + ": " + h + " " + k + " " + l + " what " + what;
            same(index + " absent", () -> x.absent(h, k, l), () -> m.absent(h, k, l));
            same(index + " greatest", () -> x.greatest(h, k, l, what), () -> m.greatest(h, k, l, what));
            same(index + " sent by " + i, () -> x.sent(i, h, k, l, what), () -> m.sent(i, h, k, l, what));
        }
    }

    private void eachKnownSymbol() {
        Random random = new Random(1);
        renew();
        for (String text : KNOWN) {
            symbol(text);
            wholeGroup(text);
            indices(text, random, 60);
            for (int most : new int[] {0, 1, 3, 13}) {
                same(text + ": complete " + most, () -> x.complete(most, 1), () -> m.complete(most, 1));
            }
        }
        symbol("-P 2ybc");
        same("complete 12", () -> x.complete(12, 1), () -> m.complete(12, 1));
        symbol("-P 6c 2c");
        same("complete 12", () -> x.complete(12, 1), () -> m.complete(12, 1));
    }

    /** Each beginning of a symbol, alone and with each of many bytes behind it. */
    private void allBeginningsOfSymbols() {
        renew();
        String behind = " -PABCIRF123456xyz'\"*abcnuvwd0579qX\n\u0000\u00b2";
        for (String text : new String[] {"  -R 2 -2ad 3nw2  2'", "P 1u 6x5 4z3abc 3ddd", "-F 1 4 2 3", "P 3 2 -6ya1 1  "}) {
            for (int n = 0; n <= text.length(); n++) {
                symbol(text.substring(0, n));
                for (char c : behind.toCharArray()) {
                    symbol(text.substring(0, n) + c);
                }
            }
        }
    }

    private static String randomSymbol(Random random) {
        StringBuilder text = new StringBuilder();
        text.append(random.nextInt(4) == 0 ? " " : "").append(random.nextInt(3) == 0 ? "-" : "");
        text.append("PABCIRF".charAt(random.nextInt(7)));
        int matrices = 1 + random.nextInt(random.nextInt(4) == 0 ? 5 : 3);
        for (int i = 0; i < matrices; i++) {
            text.append(random.nextInt(6) == 0 ? "  " : " ").append(random.nextInt(4) == 0 ? "-" : "");
            text.append("1223346".charAt(random.nextInt(7)));
            if (random.nextInt(2) == 0) {
                text.append("xyzz'\"*".charAt(random.nextInt(7)));
            }
            int shifts = random.nextInt(2) == 0 ? 0 : random.nextInt(6);
            for (int k = 0; k < shifts; k++) {
                text.append("abcnuvwdabcnuvwd12345".charAt(random.nextInt(21)));
            }
        }
        return text.append(random.nextInt(5) == 0 ? " " : "").toString();
    }

    private static String mutated(String text, Random random, String signs) {
        if (text.isEmpty()) {
            return text;
        }
        int at = random.nextInt(text.length());
        char c = signs.charAt(random.nextInt(signs.length()));
        return switch (random.nextInt(3)) {
            case 0 -> text.substring(0, at) + c + text.substring(at + 1);
            case 1 -> text.substring(0, at) + c + text.substring(at);
            default -> text.substring(0, at) + text.substring(at + 1);
        };
    }

    private void randomSymbols() {
        Random random = new Random(2);
        renew();
        for (int n = 0; n < 3000; n++) {
            String text = randomSymbol(random);
            symbol(n % 4 == 0 ? mutated(text, random, " -PRF12346xyz'\"*abnuwd05") : text);
            same("order of " + text, () -> x.order(), () -> m.group.size());
            if (n % 3 == 0 && !m.group.isEmpty()) {
                wholeGroup(text);
                indices(text, random, 5);
            }
        }
    }

    private static String randomFile(Random random, int rows) {
        StringBuilder text = new StringBuilder();
        int most = random.nextInt(3) == 0 ? 127 : 1 + random.nextInt(4);
        for (int i = 0; i < rows; i++) {
            int h = random.nextInt(2 * most + 1) - most;
            int k = random.nextInt(2 * most + 1) - most;
            int l = random.nextInt(2 * most + 1) - most;
            boolean zeros = h == 0 && k == 0 && l == 0 && i < rows - 1;
            int size = random.nextInt(4) == 0 ? 9999999 : 3000;
            int intensity = random.nextInt(size + 1) - (random.nextInt(3) == 0 ? Math.min(size, 999999) : 0);
            text.append(Checks.line(zeros ? 1 : h, k, l, intensity, random.nextInt(random.nextInt(4) == 0 ? 10000000 : 300)));
        }
        return random.nextBoolean() ? text.toString() : text.substring(0, text.length() - 1);
    }

    private void brokenFiles() {
        Random random = new Random(3);
        renew();
        String good = Checks.line(-12, 3, 127, -1234, 50) + Checks.line(0, 0, 0, 0, 0);
        for (int n = 0; n <= good.length(); n++) {
            file(good.substring(0, n));
            for (char c : " -./0159:x\n\u0000\u00b2".toCharArray()) {
                file(good.substring(0, n) + c + (n < good.length() ? good.substring(n + 1) : ""));
                file(good.substring(0, n) + c);
            }
        }
        for (int n = 0; n < 4000; n++) {
            String text = randomFile(random, 1 + random.nextInt(4));
            if (random.nextInt(8) == 0) {
                text = text + (text.endsWith("\n") ? "" : "\n") + "   0  -0 000   -0.00    0.00" + (random.nextBoolean() ? "\n" : "");
            }
            for (int i = random.nextInt(4); i > 0; i--) {
                text = mutated(text, random, " --..0123459x\n");
            }
            file(text);
            same("reflections", () -> x.reflections(), () -> m.reflections.size());
            if (x.reflections() > 2000) {
                same("drop", () -> x.drop(), () -> m.drop());
            }
        }
    }

    private void everything(String where, Random random) {
        same(where + " rows", () -> x.rows(), () -> m.rows.size());
        for (int n = 0; n < 12; n++) {
            int i = random.nextInt(m.rows.size() + 2) - 1;
            int r = random.nextInt(m.reflections.size() + 2) - 1;
            int what = random.nextInt(12) - 1;
            same(where + " row " + i + " " + what, () -> x.row(i, what), () -> m.row(i, what));
            same(where + " reflection " + r + " " + what, () -> x.reflection(r, what), () -> m.reflection(r, what));
        }
        for (int what = -1; what <= 2; what++) {
            int w = what;
            same(where + " digits " + w, () -> x.digits(w), () -> m.digits(w));
            for (int k : new int[] {-1, 0, 1, 2, 3, 9, 10, Integer.MAX_VALUE, Integer.MIN_VALUE}) {
                same(where + " digit " + w + " " + k, () -> x.digit(w, k), () -> m.digit(w, k));
            }
        }
        for (int i = -1; i < 5; i++) {
            int n = i;
            same(where + " violation " + n, () -> x.violation(n), () -> m.violation(n));
        }
        int most = random.nextInt(6) - 1;
        int what = random.nextInt(4) - 1;
        same(where + " complete " + most + " " + what, () -> x.complete(most, what), () -> m.complete(most, what));
    }

    private void randomRuns() {
        for (int seed = 0; seed < 120; seed++) {
            Random random = new Random(seed);
            renew();
            for (int step = 0; step < 25; step++) {
                String where = "run " + seed + " step " + step;
                switch (random.nextInt(9)) {
                    case 0, 1 -> symbol(KNOWN[random.nextInt(KNOWN.length)]);
                    case 2 -> symbol(mutated(randomSymbol(random), random, "P 12xq"));
                    case 3, 4 -> file(randomFile(random, 1 + random.nextInt(40)));
                    case 5, 6 -> same(where + " merge", () -> x.merge(), () -> m.merge());
                    case 7 -> {
                        int sigmas = random.nextInt(5) == 0 ? random.nextInt(110) - 4 : random.nextInt(4);
                        same(where + " violations", () -> x.violations(sigmas), () -> m.violations(sigmas));
                    }
                    default -> {
                        if (random.nextInt(4) == 0) {
                            same(where + " drop", () -> x.drop(), () -> m.drop());
                        }
                    }
                }
                everything(where, random);
            }
        }
    }

    /** Rows of many sizes, so that R has many digits. */
    private void wideQuotients() {
        int[][] sizes = {{2, 3, 5, 7, 11, 13, 17, 19, 23, 29, 31, 37, 41, 43}, {32, 27, 25, 49, 11, 13, 17, 19, 23, 29},
            {2, 4, 8, 16, 32, 64}, {97, 89, 83}, {2, 2, 2, 3, 3, 6, 6, 12},
            // nearly 3000 in all, and the greatest common multiple that they can have
            {2, 3, 5, 7, 11, 13, 17, 19, 23, 29, 31, 37, 41, 43, 47, 53, 59, 61, 67, 71, 73, 79, 83, 89, 97, 101, 103, 107,
                109, 113, 127, 131, 137, 139, 149, 151, 157, 163, 167}};
        Random random = new Random(5);
        for (int[] each : sizes) {
            for (int highest : new int[] {9999999, 5000, 1}) {
                renew();
                symbol("-P 4 2 3");
                for (int i = 0; i < each.length; i++) {
                    StringBuilder text = new StringBuilder();
                    for (int k = 0; k < each[i]; k++) {
                        int sign = random.nextBoolean() ? 1 : -1;
                        text.append(Checks.line(k % 2 == 0 ? i : -1, k % 2 == 0 ? 1 : sign * i, 100,
                            random.nextInt(highest + 1), 100));
                    }
                    file(text.toString());
                }
                same("merge", () -> x.merge(), () -> m.merge());
                everything("wide", random);
            }
        }
    }
}
