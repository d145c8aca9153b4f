import java.io.ByteArrayOutputStream;
import java.io.File;
import java.io.IOException;
import java.io.PrintStream;
import java.lang.reflect.Method;
import java.lang.reflect.Modifier;
import java.net.URL;
import java.net.URLClassLoader;
import java.nio.file.Files;
import java.nio.file.Path;
import javax.tools.ToolProvider;

/** What README.md tells: its program prints what it says, and its table has every call. */
public final class ReadmeTests {
    private final Checks checks = new Checks();
    private final String text;

    private ReadmeTests(String text) {
        this.text = text;
    }

    public static void main(String[] args) throws Exception {
        ReadmeTests t = new ReadmeTests(Files.readString(Path.of("README.md")));
        t.example();
        t.everyCall();
        t.howToTest();
        t.checks.finish();
    }

    private void yes(String what, boolean is) {
        checks.due(what, is ? 1 : 0, 1);
    }

    /** The first block of a kind, without its fences; empty if there is none. */
    private String block(String kind) {
        String fence = "\n```" + kind + "\n";
        int from = text.indexOf(fence);
        int to = from < 0 ? -1 : text.indexOf("\n```\n", from + fence.length());
        return to < 0 ? "" : text.substring(from + fence.length(), to + 1);
    }

    private void example() throws Exception {
        Path folder = Files.createTempDirectory("readme");
        try {
            Path source = Files.writeString(folder.resolve("Example.java"), block("java"));
            int failed = ToolProvider.getSystemJavaCompiler().run(null, null, null,
                "-encoding", "UTF-8", "-cp", System.getProperty("java.class.path"), "-d", folder.toString(), source.toString());
            checks.due("the compiler, of the program in README.md,", failed, 0);
            if (failed == 0) {
                String printed = printedBy(folder);
                yes("README.md tells what its program prints, which is\n" + printed, printed.equals(block("text")));
            }
        } finally {
            for (File file : folder.toFile().listFiles()) {
                Files.delete(file.toPath());
            }
            Files.delete(folder);
        }
    }

    private static String printedBy(Path folder) throws Exception {
        ByteArrayOutputStream bytes = new ByteArrayOutputStream();
        PrintStream before = System.out;
        try (URLClassLoader loader = new URLClassLoader(new URL[] {folder.toUri().toURL()})) {
            System.setOut(new PrintStream(bytes, true));
            loader.loadClass("Example").getMethod("main", String[].class).invoke(null, (Object) new String[0]);
        } finally {
            System.setOut(before);
        }
        return bytes.toString().replace(System.lineSeparator(), "\n");
    }

    private void everyCall() {
        for (Method m : ReflectionReducer.class.getDeclaredMethods()) {
            if (Modifier.isPublic(m.getModifiers())) {
                yes("README.md's table has " + m.getName(), text.contains("`" + m.getName() + "("));
            }
        }
    }

    private void howToTest() throws IOException {
        yes("README.md tells the command that runs the tests", text.contains("\n```sh\n.ci/run\n```\n"));
        yes("that command can be run", Files.isExecutable(Path.of(".ci/run")));
        try (var files = Files.list(Path.of("src/test/java"))) {
            for (Path path : (Iterable<Path>) files::iterator) {
                String name = path.getFileName().toString();
                if (name.endsWith("Tests.java")) {
                    yes("README.md tells of " + name, text.contains("`" + name.replace(".java", "") + "`"));
                }
            }
        }
    }
}
