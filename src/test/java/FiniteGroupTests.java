import java.util.ArrayList;
import java.util.Arrays;
import java.util.HashSet;
import java.util.List;
import java.util.Set;
import java.util.TreeSet;

/**
 * What the program takes for granted of groups: the rotations that a symbol's matrices
 * can make have numbers -1 .. 1 alone, whenever they are 48 or fewer, and there are no
 * finite groups of more. Changing all signs commutes with all rotations, so that the
 * rotations without - are enough.
 */
public final class FiniteGroupTests {
    private static final int[][] ABOUT_Z = {
        {-1, 0, 0, 0, -1, 0, 0, 0, 1}, {0, -1, 0, 1, -1, 0, 0, 0, 1}, {0, -1, 0, 1, 0, 0, 0, 0, 1},
        {1, -1, 0, 1, 0, 0, 0, 0, 1}, {0, -1, 0, -1, 0, 0, 0, 0, -1}, {0, 1, 0, 1, 0, 0, 0, 0, -1},
    };
    private static final List<Integer> ONE = List.of(1, 0, 0, 0, 1, 0, 0, 0, 1);
    private static final int MOST = 48;

    public static void main(String[] args) {
        Checks checks = new Checks();
        Set<Set<List<Integer>>> groups = new HashSet<>();
        groups.add(Set.of(ONE));
        for (int matrices = 0; matrices < 4; matrices++) {
            Set<Set<List<Integer>>> more = new HashSet<>(groups);
            for (Set<List<Integer>> group : groups) {
                for (List<Integer> generator : generators()) {
                    Set<List<Integer>> made = closure(group, generator);
                    if (made != null) {
                        more.add(made);
                    }
                }
            }
            groups = more;
        }
        Set<Integer> sizes = new TreeSet<>();
        for (Set<List<Integer>> group : groups) {
            sizes.add(group.size());
            for (List<Integer> rotation : group) {
                boolean small = rotation.stream().allMatch(n -> n >= -1 && n <= 1);
                checks.due("numbers of " + rotation + " are small", small ? 1 : 0, 1);
            }
        }
        boolean known = sizes.equals(Set.of(1, 2, 3, 4, 6, 8, 12, 24));
        checks.due("sizes of groups of proper rotations, " + sizes, known ? 1 : 0, 1);
        checks.finish();
    }

    private static List<List<Integer>> generators() {
        List<List<Integer>> all = new ArrayList<>();
        all.add(List.of(0, 0, 1, 1, 0, 0, 0, 1, 0));
        for (int[] z : ABOUT_Z) {
            for (int turn = 0; turn < 3; turn++) {
                Integer[] made = new Integer[9];
                for (int i = 0; i < 9; i++) {
                    made[(i / 3 + turn) % 3 * 3 + (i % 3 + turn) % 3] = z[i];
                }
                all.add(Arrays.asList(made));
            }
        }
        return all;
    }

    /** The group with one generator more; null if it has no end. */
    private static Set<List<Integer>> closure(Set<List<Integer>> group, List<Integer> generator) {
        List<List<Integer>> by = new ArrayList<>(group);
        by.add(generator);
        Set<List<Integer>> seen = new HashSet<>(List.of(ONE));
        List<List<Integer>> queue = new ArrayList<>(seen);
        for (int i = 0; i < queue.size(); i++) {
            for (List<Integer> right : by) {
                List<Integer> product = times(queue.get(i), right);
                if (seen.add(product)) {
                    queue.add(product);
                }
            }
            if (queue.size() > MOST) {
                return null;
            }
        }
        return seen;
    }

    private static List<Integer> times(List<Integer> a, List<Integer> b) {
        List<Integer> made = new ArrayList<>();
        for (int i = 0; i < 9; i++) {
            int sum = 0;
            for (int k = 0; k < 3; k++) {
                sum = Math.addExact(sum, Math.multiplyExact(a.get(i / 3 * 3 + k), b.get(k * 3 + i % 3)));
            }
            made.add(sum);
        }
        return made;
    }
}
