import java.math.BigInteger;
import java.util.ArrayList;
import java.util.Arrays;
import java.util.Collections;
import java.util.Comparator;
import java.util.HashSet;
import java.util.LinkedHashSet;
import java.util.List;
import java.util.Map;
import java.util.Set;
import java.util.TreeMap;
import java.util.TreeSet;
import java.util.regex.Matcher;
import java.util.regex.Pattern;

/**
 * The document once more, by other means than the program's: faults from regular
 * expressions and what could still follow, groups and kinds from sets, R from BigInteger.
 */
final class Model {
    private static final Comparator<int[]> BY_NUMBERS = Arrays::compare;
    private static final Map<Integer, int[]> ABOUT_Z = Map.of(
        1, new int[] {1, 0, 0, 0, 1, 0, 0, 0, 1},
        2, new int[] {-1, 0, 0, 0, -1, 0, 0, 0, 1},
        3, new int[] {0, -1, 0, 1, -1, 0, 0, 0, 1},
        4, new int[] {0, -1, 0, 1, 0, 0, 0, 0, 1},
        6, new int[] {1, -1, 0, 1, 0, 0, 0, 0, 1});
    private static final List<SymbolForm> FORMS = allForms();

    StringBuilder tape = new StringBuilder();
    List<int[]> group = new ArrayList<>();
    List<int[]> reflections = new ArrayList<>();
    TreeMap<List<Integer>, List<int[]>> rows = new TreeMap<>(Model::compareLists);
    List<Integer> found = new ArrayList<>();

    static int compareLists(List<Integer> a, List<Integer> b) {
        for (int i = 0; i < 3; i++) {
            if (!a.get(i).equals(b.get(i))) {
                return a.get(i).compareTo(b.get(i));
            }
        }
        return 0;
    }

    // ---- the tape

    int feed(int... numbers) {
        if (tape.length() + 20 > 8000) {
            throw new IllegalStateException();
        }
        for (int n : numbers) {
            for (int shift = 24; shift >= 0; shift -= 8) {
                tape.append((char) (n >>> shift & 255));
            }
        }
        return tape.length();
    }

    void end(int n) {
        if (n < 0 || n > tape.length()) {
            throw new IllegalArgumentException();
        }
        tape.setLength(n);
    }

    // ---- symbols

    /** One choice of orders, with the axes that matrices without one have ("" where one must stand). */
    private record SymbolForm(List<Integer> orders, List<String> defaults, Pattern pattern) { }

    private static List<SymbolForm> allForms() {
        List<SymbolForm> forms = new ArrayList<>();
        addForms(new ArrayList<>(), forms);
        return forms;
    }

    private static void addForms(List<Integer> orders, List<SymbolForm> forms) {
        if (!orders.isEmpty()) {
            List<String> defaults = new ArrayList<>();
            StringBuilder text = new StringBuilder(" *-?[PABCIRF]");
            List<Integer> turned = new ArrayList<>();
            for (int order : orders) {
                if (order > 1) {
                    turned.add(order);
                }
                String axis = defaultAxis(order, turned);
                defaults.add(axis);
                text.append(" +(").append(matrixPattern(order, axis)).append(")");
            }
            forms.add(new SymbolForm(List.copyOf(orders), defaults, Pattern.compile(text + " *")));
        }
        if (orders.size() < 4) {
            for (int order : new int[] {1, 2, 3, 4, 6}) {
                List<Integer> more = new ArrayList<>(orders);
                more.add(order);
                addForms(more, forms);
            }
        }
    }

    private static String defaultAxis(int order, List<Integer> turned) {
        if (order == 1) {
            return "-";
        }
        if (turned.size() == 1) {
            return "z";
        }
        if (turned.size() == 2 && order == 2) {
            return turned.get(0) == 2 || turned.get(0) == 4 ? "x" : "'";
        }
        return order == 3 ? "*" : "";
    }

    private static String matrixPattern(int order, String axis) {
        String letters = "[abcnuvwd]";
        String plain = letters + "{0,4}";
        String screw = order == 1 || order == 2 ? plain : "(?:" + plain + "|"
            + "[1-" + (order - 1) + "]" + letters + "{0,3}|" + letters + "[1-" + (order - 1) + "]" + letters + "{0,2}|"
            + letters + "{2}[1-" + (order - 1) + "]" + letters + "?|" + letters + "{3}[1-" + (order - 1) + "])";
        if (order == 1) {
            return "-?1" + plain;
        }
        String named = "[xyz]" + screw;
        String other = order == 2 ? "|['\"]" + plain : order == 3 ? "|\\*" + plain : "";
        String none = axis.isEmpty() ? "" : axis.equals("z") || axis.equals("x") ? "|" + screw : "|" + plain;
        return "-?" + order + "(?:" + named + other + none + ")";
    }

    int symbol() {
        String text = tape.toString();
        tape.setLength(0);
        List<SymbolForm> left = new ArrayList<>(FORMS);
        for (int n = 1; n <= text.length(); n++) {
            String begin = text.substring(0, n);
            left.removeIf(form -> !mayBegin(form.pattern, begin));
            if (left.isEmpty()) {
                return -n;
            }
        }
        for (SymbolForm form : left) {
            Matcher m = form.pattern.matcher(text);
            if (m.matches()) {
                return makeGroup(text.trim(), form, m);
            }
        }
        return -1 - text.length();
    }

    private static boolean mayBegin(Pattern pattern, String begin) {
        Matcher m = pattern.matcher(begin);
        return m.matches() || m.hitEnd();
    }

    private int makeGroup(String text, SymbolForm form, Matcher m) {
        List<int[]> generators = new ArrayList<>();
        boolean centric = text.startsWith("-");
        if (centric) {
            generators.add(operator(negative(ABOUT_Z.get(1)), 0, 0, 0));
        }
        for (int[] t : centring(text.charAt(centric ? 1 : 0))) {
            generators.add(operator(ABOUT_Z.get(1), t[0], t[1], t[2]));
        }
        char before = 'z';
        for (int i = 0; i < form.orders.size(); i++) {
            String matrix = m.group(i + 1);
            String axis = axisOf(matrix, form.defaults.get(i));
            generators.add(matrixOf(matrix, form.orders.get(i), axis, before));
            if ("xyz".contains(axis)) {
                before = axis.charAt(0);
            }
        }
        List<int[]> made = closure(generators);
        if (made == null) {
            return -9001;
        }
        group = made;
        rows.clear();
        return 0;
    }

    private static int[][] centring(char letter) {
        return switch (letter) {
            case 'A' -> new int[][] {{0, 6, 6}};
            case 'B' -> new int[][] {{6, 0, 6}};
            case 'C' -> new int[][] {{6, 6, 0}};
            case 'I' -> new int[][] {{6, 6, 6}};
            case 'F' -> new int[][] {{0, 6, 6}, {6, 0, 6}, {6, 6, 0}};
            case 'R' -> new int[][] {{8, 4, 4}, {4, 8, 8}};
            default -> new int[0][];
        };
    }

    private static String axisOf(String matrix, String byDefault) {
        int at = matrix.startsWith("-") ? 2 : 1;
        if (at < matrix.length() && "xyz'\"*".indexOf(matrix.charAt(at)) >= 0) {
            return matrix.substring(at, at + 1);
        }
        return byDefault;
    }

    private static int[] matrixOf(String matrix, int order, String axis, char before) {
        int[] rotation = switch (axis) {
            case "'" -> turned(new int[] {0, -1, 0, -1, 0, 0, 0, 0, -1}, before);
            case "\"" -> turned(new int[] {0, 1, 0, 1, 0, 0, 0, 0, -1}, before);
            case "*" -> new int[] {0, 0, 1, 1, 0, 0, 0, 1, 0};
            default -> turned(ABOUT_Z.get(order), axis.charAt(0));
        };
        int[] t = new int[3];
        String shifts = matrix.substring(matrix.startsWith("-") ? 2 : 1);
        for (char c : shifts.toCharArray()) {
            addShift(t, c, order, axis);
        }
        return operator(matrix.startsWith("-") ? negative(rotation) : rotation, t[0], t[1], t[2]);
    }

    private static void addShift(int[] t, char c, int order, String axis) {
        if ("xyz'\"*".indexOf(c) >= 0) {
            return;
        }
        if (Character.isDigit(c)) {
            t["xyz".indexOf(axis)] += (c - '0') * 12 / order;
            return;
        }
        int by = "abcn".indexOf(c) >= 0 ? 6 : 3;
        for (int i = 0; i < 3; i++) {
            boolean all = c == 'n' || c == 'd';
            if (all || "abc".indexOf(c) == i || "uvw".indexOf(c) == i) {
                t[i] += by;
            }
        }
    }

    private static int[] turned(int[] z, char axis) {
        int[] order = axis == 'x' ? new int[] {2, 0, 1} : axis == 'y' ? new int[] {1, 2, 0} : new int[] {0, 1, 2};
        int[] made = new int[9];
        for (int i = 0; i < 9; i++) {
            made[i] = z[order[i / 3] * 3 + order[i % 3]];
        }
        return made;
    }

    private static int[] negative(int[] numbers) {
        return Arrays.stream(numbers).map(n -> -n).toArray();
    }

    private static int[] operator(int[] rotation, int x, int y, int z) {
        int[] made = Arrays.copyOf(rotation, 12);
        made[9] = x % 12;
        made[10] = y % 12;
        made[11] = z % 12;
        return made;
    }

    /** All products, or null for more than 192. Overflow is possible without end alone. */
    private static List<int[]> closure(List<int[]> generators) {
        Set<int[]> seen = new TreeSet<>(BY_NUMBERS);
        List<int[]> queue = new ArrayList<>();
        queue.add(operator(ABOUT_Z.get(1), 0, 0, 0));
        seen.add(queue.get(0));
        try {
            for (int i = 0; i < queue.size(); i++) {
                for (int[] g : generators) {
                    int[] product = behind(queue.get(i), g);
                    if (seen.add(product)) {
                        queue.add(product);
                    }
                    if (queue.size() > 192) {
                        return null;
                    }
                }
            }
        } catch (ArithmeticException endless) {
            return null;
        }
        queue.sort(BY_NUMBERS);
        return queue;
    }

    private static int[] behind(int[] a, int[] b) {
        int[] made = new int[12];
        for (int i = 0; i < 3; i++) {
            int shift = a[9 + i];
            for (int j = 0; j < 3; j++) {
                int sum = 0;
                for (int k = 0; k < 3; k++) {
                    sum = Math.addExact(sum, Math.multiplyExact(a[i * 3 + k], b[k * 3 + j]));
                }
                made[i * 3 + j] = sum;
                shift = Math.addExact(shift, Math.multiplyExact(a[i * 3 + j], b[9 + j]));
            }
            made[9 + i] = Math.floorMod(shift, 12);
        }
        return made;
    }

    // ---- the group

    private void needGroup() {
        if (group.isEmpty()) {
            throw new IllegalStateException();
        }
    }

    private static void needIndex(int... index) {
        for (int n : index) {
            if (n < -127 || n > 127) {
                throw new IllegalArgumentException();
            }
        }
    }

    private static void need(boolean there) {
        if (!there) {
            throw new IndexOutOfBoundsException();
        }
    }

    int op(int i, int k) {
        need(i >= 0 && i < group.size() && k >= 0 && k < 12);
        return group.get(i)[k];
    }

    int laue() {
        Set<String> proper = new HashSet<>();
        Set<Integer> traces = new HashSet<>();
        for (int[] op : group) {
            int[] r = Arrays.copyOf(op, 9);
            int det = r[0] * r[4] * r[8] + r[1] * r[5] * r[6] + r[2] * r[3] * r[7]
                - r[2] * r[4] * r[6] - r[1] * r[3] * r[8] - r[0] * r[5] * r[7];
            int[] p = det < 0 ? negative(r) : r;
            proper.add(Arrays.toString(p));
            traces.add(p[0] + p[4] + p[8]);
        }
        int[] classes = new int[25];
        Arrays.fill(classes, -1);
        classes[1] = 0;
        classes[2] = 1;
        classes[4] = traces.contains(1) ? 3 : 2;
        classes[8] = 4;
        classes[3] = 5;
        classes[6] = traces.contains(2) ? 7 : 6;
        classes[12] = traces.contains(2) ? 8 : 9;
        classes[24] = 10;
        return classes[proper.size()];
    }

    int plain(int sign) {
        int[] one = sign == 1 ? ABOUT_Z.get(1) : sign == -1 ? negative(ABOUT_Z.get(1)) : null;
        return (int) group.stream().filter(op -> one != null && Arrays.equals(Arrays.copyOf(op, 9), one)).count();
    }

    private static List<Integer> sendBy(int[] op, List<Integer> index) {
        List<Integer> made = new ArrayList<>();
        for (int j = 0; j < 3; j++) {
            made.add(index.get(0) * op[j] + index.get(1) * op[3 + j] + index.get(2) * op[6 + j]);
        }
        return made;
    }

    private static int phaseBy(int[] op, List<Integer> index) {
        return Math.floorMod(index.get(0) * op[9] + index.get(1) * op[10] + index.get(2) * op[11], 12);
    }

    int sent(int i, int h, int k, int l, int what) {
        need(i >= 0 && i < group.size() && what >= 0 && what <= 3);
        needIndex(h, k, l);
        List<Integer> index = List.of(h, k, l);
        return what == 3 ? phaseBy(group.get(i), index) : sendBy(group.get(i), index).get(what);
    }

    private boolean isAbsent(List<Integer> index) {
        return group.stream().anyMatch(op -> sendBy(op, index).equals(index) && phaseBy(op, index) != 0);
    }

    int absent(int h, int k, int l) {
        needGroup();
        needIndex(h, k, l);
        return isAbsent(List.of(h, k, l)) ? 1 : 0;
    }

    private Set<List<Integer>> equivalents(List<Integer> index) {
        Set<List<Integer>> all = new LinkedHashSet<>();
        for (int[] op : group) {
            List<Integer> s = sendBy(op, index);
            all.add(s);
            all.add(List.of(-s.get(0), -s.get(1), -s.get(2)));
        }
        return all;
    }

    private List<Integer> greatestOf(List<Integer> index) {
        return Collections.max(equivalents(index), Model::compareLists);
    }

    int greatest(int h, int k, int l, int what) {
        needGroup();
        needIndex(h, k, l);
        need(what >= 0 && what <= 3);
        List<Integer> index = List.of(h, k, l);
        return what == 3 ? equivalents(index).size() : greatestOf(index).get(what);
    }

    // ---- files

    private static final String INDEX = "(?:   \\d|  [-\\d]\\d| [-\\d]\\d\\d|[-\\d]\\d\\d\\d)";
    private static final String SIGNED = "(?:    \\d|   [-\\d]\\d|  [-\\d]\\d\\d| [-\\d]\\d{3}|[-\\d]\\d{4})\\.\\d\\d";
    private static final String UNSIGNED = "(?:    \\d|   \\d\\d|  \\d{3}| \\d{4}|\\d{5})\\.\\d\\d";
    private static final String ROW = INDEX + INDEX + INDEX + SIGNED + UNSIGNED;
    private static final Pattern FILE_BEGUN = Pattern.compile("(?:" + ROW + "\\x0a)*" + "(?:" + ROW + ")?");

    int file() {
        String text = tape.toString();
        tape.setLength(0);
        int syntax = syntaxFault(text);
        int fault = Math.min(syntax, meaningFault(text, syntax));
        if (fault < Integer.MAX_VALUE) {
            return -1 - fault;
        }
        List<int[]> come = new ArrayList<>();
        for (String row : text.split("\n")) {
            int[] r = {number(row, 0, 4), number(row, 4, 8), number(row, 8, 12),
                number(row, 12, 20), number(row, 20, 28)};
            if (r[0] != 0 || r[1] != 0 || r[2] != 0) {
                come.add(r);
            }
        }
        reflections.addAll(come);
        return come.size();
    }

    private static int number(String row, int from, int to) {
        return Integer.parseInt(row.substring(from, to).trim().replace(".", ""));
    }

    private static int syntaxFault(String text) {
        for (int n = 1; n <= text.length(); n++) {
            // What is behind whole rows that are right is judged alone, for speed.
            String begin = text.substring((n - 1) / 29 * 29, n);
            Matcher m = FILE_BEGUN.matcher(begin);
            if (!m.matches() && !m.hitEnd()) {
                return n - 1;
            }
        }
        boolean whole = !text.isEmpty() && (text.length() % 29 == 0 || text.length() % 29 == 28);
        return whole ? Integer.MAX_VALUE : text.length();
    }

    private static int meaningFault(String text, int syntax) {
        boolean ended = false;
        int end = Math.min(syntax, text.length());
        for (int start = 0; start < text.length(); start += 29) {
            if (ended) {
                return start;
            }
            boolean zeros = true;
            for (int i = 0; i < 3; i++) {
                if (start + i * 4 + 4 > end) {
                    return Integer.MAX_VALUE;
                }
                int n = number(text, start + i * 4, start + i * 4 + 4);
                if (n < -127 || n > 127) {
                    return start + i * 4 + 3;
                }
                zeros &= n == 0;
            }
            ended = zeros;
        }
        return Integer.MAX_VALUE;
    }

    int drop() {
        int n = reflections.size();
        reflections.clear();
        rows.clear();
        return n;
    }

    int reflection(int i, int what) {
        need(i >= 0 && i < reflections.size() && what >= 0 && what <= 4);
        return reflections.get(i)[what];
    }

    // ---- merging

    private static List<Integer> indexOf(int[] reflection) {
        return List.of(reflection[0], reflection[1], reflection[2]);
    }

    int merge() {
        needGroup();
        rows.clear();
        for (int[] r : reflections) {
            rows.computeIfAbsent(greatestOf(indexOf(r)), kind -> new ArrayList<>()).add(r);
        }
        return rows.size();
    }

    private static long sum(List<int[]> row) {
        return row.stream().mapToLong(r -> r[3]).sum();
    }

    private static long spread(List<int[]> row) {
        return row.stream().mapToLong(r -> Math.abs(row.size() * (long) r[3] - sum(row))).sum();
    }

    long row(int i, int what) {
        need(i >= 0 && i < rows.size() && what >= 0 && what <= 9);
        List<Integer> kind = new ArrayList<>(rows.keySet()).get(i);
        List<int[]> row = rows.get(kind);
        BigInteger n = BigInteger.valueOf(row.size());
        BigInteger s = BigInteger.valueOf(sum(row));
        return switch (what) {
            case 3 -> row.size();
            case 4 -> equivalents(kind).size();
            case 5 -> isAbsent(kind) ? 1 : 0;
            case 6 -> sum(row);
            case 7 -> s.divide(s.gcd(n)).longValueExact();
            case 8 -> n.divide(s.gcd(n)).longValueExact();
            case 9 -> spread(row);
            default -> kind.get(what);
        };
    }

    /** R, numerator and denominator; null when there is none. */
    BigInteger[] quotient() {
        BigInteger top = BigInteger.ZERO;
        BigInteger bottom = BigInteger.ONE;
        long total = 0;
        for (Map.Entry<List<Integer>, List<int[]>> e : rows.entrySet()) {
            List<int[]> row = e.getValue();
            if (row.size() < 2 || isAbsent(e.getKey())) {
                continue;
            }
            BigInteger n = BigInteger.valueOf(row.size());
            top = top.multiply(n).add(bottom.multiply(BigInteger.valueOf(spread(row))));
            bottom = bottom.multiply(n);
            total += sum(row);
        }
        if (total <= 0) {
            return null;
        }
        bottom = bottom.multiply(BigInteger.valueOf(total));
        BigInteger common = top.gcd(bottom);
        return new BigInteger[] {top.divide(common), bottom.divide(common)};
    }

    int digits(int what) {
        need(what == 0 || what == 1);
        BigInteger[] r = quotient();
        return r == null ? -1 : (r[what].bitLength() + 31) / 32;
    }

    int digit(int what, int k) {
        need(what == 0 || what == 1);
        BigInteger[] r = quotient();
        return r == null || k < 0 || k > 1000 ? 0 : r[what].shiftRight(32 * k).intValue();
    }

    int violations(int m) {
        needGroup();
        if (m < 0 || m > 100) {
            throw new IllegalArgumentException();
        }
        found.clear();
        for (int i = 0; i < reflections.size(); i++) {
            int[] r = reflections.get(i);
            if (isAbsent(indexOf(r)) && r[3] > (long) m * r[4]) {
                found.add(i);
            }
        }
        return found.size();
    }

    int violation(int i) {
        return i >= 0 && i < found.size() ? found.get(i) : -1;
    }

    int complete(int most, int what) {
        needGroup();
        if (most < 1 || most > 12) {
            throw new IllegalArgumentException();
        }
        need(what == 0 || what == 1);
        Set<List<Integer>> kinds = new HashSet<>();
        for (int h = -most; h <= most; h++) {
            for (int k = -most; k <= most; k++) {
                for (int l = -most; l <= most; l++) {
                    List<Integer> index = List.of(h, k, l);
                    List<Integer> kind = greatestOf(index);
                    boolean inside = kind.stream().allMatch(n -> Math.abs(n) <= most);
                    if (inside && !index.equals(List.of(0, 0, 0)) && !isAbsent(index)) {
                        kinds.add(kind);
                    }
                }
            }
        }
        return what == 1 ? kinds.size() : (int) kinds.stream().filter(rows::containsKey).count();
    }
}
