import java.io.IOException;
import java.lang.management.ManagementFactory;
import java.lang.reflect.Field;
import java.lang.reflect.Member;
import java.lang.reflect.Method;
import java.lang.reflect.Modifier;
import java.nio.file.Files;
import java.nio.file.Path;
import java.util.ArrayList;
import java.util.Arrays;
import java.util.HashSet;
import java.util.List;
import java.util.Set;
import java.util.TreeSet;
import java.util.stream.Collectors;

/** The face of the class as the document has it, what the language rules out, and what calls make. */
public final class FaceTests {
    private static final String S = " throws IllegalStateException";
    private static final String A = " throws IllegalArgumentException";
    private static final String I = " throws IndexOutOfBoundsException";
    private static final Set<String> FACE = Set.of(
        "int feed(int,int,int,int,int)" + S, "void end(int)" + A, "int symbol()", "int order()", "int op(int,int)" + I,
        "int laue()", "int plain(int)", "int sent(int,int,int,int,int)" + I + ",IllegalArgumentException",
        "int absent(int,int,int)" + S + ",IllegalArgumentException",
        "int greatest(int,int,int,int)" + S + ",IllegalArgumentException,IndexOutOfBoundsException",
        "int file()", "int drop()", "int reflections()", "int reflection(int,int)" + I, "int merge()" + S, "int rows()",
        "long row(int,int)" + I, "int digits(int)" + I, "int digit(int,int)" + I,
        "int violations(int)" + S + ",IllegalArgumentException", "int violation(int)",
        "int complete(int,int)" + S + ",IllegalArgumentException,IndexOutOfBoundsException");

    private final Checks checks = new Checks();

    public static void main(String[] args) throws IOException {
        FaceTests t = new FaceTests();
        t.face();
        t.classesInside();
        t.words();
        t.callsMakeNothing();
        t.checks.finish();
    }

    private void yes(String what, boolean is) {
        checks.due(what, is ? 1 : 0, 1);
    }

    private static String names(Class<?>[] types) {
        return Arrays.stream(types).map(Class::getSimpleName).collect(Collectors.joining(","));
    }

    private static String head(Method m) {
        String thrown = names(m.getExceptionTypes());
        return m.getReturnType() + " " + m.getName() + "(" + names(m.getParameterTypes()) + ")"
            + (thrown.isEmpty() ? "" : " throws " + thrown);
    }

    private void face() {
        Class<?> type = ReflectionReducer.class;
        yes("public and final", Modifier.isPublic(type.getModifiers()) && Modifier.isFinal(type.getModifiers()));
        Set<String> found = new TreeSet<>();
        Set<String> publicNames = new HashSet<>();
        for (Method m : type.getDeclaredMethods()) {
            if (!Modifier.isPrivate(m.getModifiers())) {
                found.add(head(m));
                publicNames.add(m.getName());
                yes(m + " is public, not static", m.getModifiers() == Modifier.PUBLIC);
            }
        }
        yes("the methods are those of the document: " + found, found.equals(FACE));
        List<Method> hidden = new ArrayList<>(Arrays.asList(type.getDeclaredMethods()));
        for (Class<?> inside : type.getDeclaredClasses()) {
            hidden.addAll(Arrays.asList(inside.getDeclaredMethods()));
        }
        for (Method m : hidden) {
            if (!Modifier.isPublic(m.getModifiers())) {
                yes(m + " bears a name of its own", !publicNames.contains(m.getName()));
            }
        }
        yes("one constructor", type.getDeclaredConstructors().length == 1 && type.getConstructors().length == 1);
        checks.due("NONE", ReflectionReducer.NONE, -1);
        checks.due("TOO_LARGE", ReflectionReducer.TOO_LARGE, -9001);
        for (Field f : type.getDeclaredFields()) {
            boolean constant = f.getName().equals("NONE") || f.getName().equals("TOO_LARGE");
            yes(f + " is seen as it should be", constant ? Modifier.isPublic(f.getModifiers()) : isPrivate(f));
        }
    }

    private static boolean isPrivate(Member m) {
        return Modifier.isPrivate(m.getModifiers());
    }

    private void classesInside() {
        Class<?>[] inside = ReflectionReducer.class.getDeclaredClasses();
        yes("twelve classes at most", inside.length + 1 <= 12);
        for (Class<?> type : inside) {
            yes(type + " is static", Modifier.isStatic(type.getModifiers()));
            yes(type + " is not public", !Modifier.isPublic(type.getModifiers()) && !Modifier.isProtected(type.getModifiers()));
            int fields = 0;
            for (Field f : type.getDeclaredFields()) {
                fields += Modifier.isStatic(f.getModifiers()) ? 0 : 1;
                yes(f + " is no static state", !Modifier.isStatic(f.getModifiers()) || Modifier.isFinal(f.getModifiers()));
            }
            yes(type + " has twenty fields at most", fields <= 20);
            for (Method m : type.getDeclaredMethods()) {
                yes(m + " takes seven at most", m.getParameterCount() <= 7);
            }
        }
    }

    private void words() throws IOException {
        String text = Files.readString(Path.of("src/main/java/ReflectionReducer.java"));
        for (String word : new String[] {"import ", "package ", "->", "::", "Exact", "finally", "synchronized", "assert ",
            "try ", "catch", "static {", "double", "float", "System.out", "hashCode", "toString", " + \""}) {
            yes("the program is without " + word, !text.contains(word));
        }
        boolean plain = text.chars().allMatch(c -> c < 128);
        yes("the program is in ASCII", plain);
    }

    /** All memory is made with the object. */
    private void callsMakeNothing() {
        var threads = (com.sun.management.ThreadMXBean) ManagementFactory.getThreadMXBean();
        ReflectionReducer x = new ReflectionReducer();
        StringBuilder file = new StringBuilder();
        for (int i = 0; i < 100; i++) {
            file.append(Checks.line(i % 5, i % 3, 1 + i % 4, 100 + i * i, 10));
        }
        work(x, 1, file.toString());
        Checks.putOnTape(x, "-I 4bd 2c 3");
        long before = threads.getThreadAllocatedBytes(Thread.currentThread().getId());
        int order = x.symbol();
        long total = order + x.order() + x.laue() + x.plain(1) + x.op(0, 0) + x.sent(0, 1, 2, 3, 3);
        total += x.absent(1, 2, 3) + x.greatest(1, 2, 3, 3) + x.merge() + x.rows() + x.row(0, 7) + x.row(0, 8);
        total += x.digits(0) + x.digit(1, 0) + x.violations(0) + x.violation(0) + x.complete(12, 1) + x.complete(12, 0);
        total += x.reflections() + x.reflection(0, 0) + x.feed(1, 2, 3, 4, 5) + x.file() + x.drop();
        long made = threads.getThreadAllocatedBytes(Thread.currentThread().getId()) - before;
        yes("calls make nothing, but made " + made + " bytes (" + total + ")", made < 1000);
    }

    private static void work(ReflectionReducer x, int times, String file) {
        for (int i = 0; i < times; i++) {
            Checks.readSymbol(x, "-P 2ybc");
            Checks.readFile(x, file);
            x.merge();
            x.violations(1);
            x.complete(3, 1);
        }
    }
}
