import java.io.IOException;
import java.net.URL;
import java.net.URLClassLoader;
import java.nio.file.Files;
import java.nio.file.Path;
import java.util.ArrayList;
import java.util.Comparator;
import java.util.List;
import java.util.regex.Matcher;
import java.util.regex.Pattern;
import java.util.stream.Stream;
import javax.tools.ToolProvider;

/** Runs the other tests on a copy of the class that counts its calls: none asks an object too often. */
public final class CallLimitTest {
    private static final Path MAIN = Path.of("src/main/java/EventWaves.java");
    private static final Path TESTS = Path.of("src/test/java");
    private static final Pattern OPEN_METHOD =
        Pattern.compile("(?m)^    public (?:int|long|boolean) \\w+\\([^)]*\\)[^{;]*\\{");
    private static final int OPEN_METHODS = 21;

    public static void main(String[] args) throws IOException, ReflectiveOperationException {
        Due due = new Due("CallLimitTest");
        due.says("An object is used for at most 512 calls after it has been made; what later calls answer is free.");
        Path out = Files.createTempDirectory("counted");
        try {
            compile(due, out);
            for (Path test : testsToCount()) {
                String name = test.getFileName().toString().replace(".java", "");
                due.is("calls beyond the limit in " + name, beyond(out, name), "");
            }
        } finally {
            remove(out);
        }
        due.end();
    }

    private static List<Path> testsToCount() throws IOException {
        List<Path> tests = new ArrayList<>();
        try (Stream<Path> files = Files.list(TESTS)) {
            files.filter(CallLimitTest::isToCount).sorted().forEach(tests::add);
        }
        return tests;
    }

    private static boolean isToCount(Path file) {
        String name = file.getFileName().toString();
        return name.endsWith("Test.java") && !name.equals("FullTapeTest.java") && !name.equals("CallLimitTest.java");
    }

    private static void compile(Due due, Path out) throws IOException {
        Matcher methods = OPEN_METHOD.matcher(Files.readString(MAIN));
        due.is("methods that are counted", methods.results().count(), OPEN_METHODS);
        Path counted = out.resolve("EventWaves.java");
        Files.writeString(counted, methods.reset().replaceAll("$0 Calls.count(this);"));
        List<String> words = new ArrayList<>(List.of("-d", out.toString(), counted.toString()));
        try (Stream<Path> files = Files.list(TESTS)) {
            files.filter(file -> file.toString().endsWith(".java")).forEach(file -> words.add(file.toString()));
        }
        int code = ToolProvider.getSystemJavaCompiler().run(null, null, null, words.toArray(new String[0]));
        due.is("the compiler's exit code", code, 0);
    }

    /** Each test has classes of its own, so that it begins to count anew. */
    private static String beyond(Path out, String test) throws IOException, ReflectiveOperationException {
        URL[] own = {out.toUri().toURL()};
        try (URLClassLoader classes = new URLClassLoader(own, ClassLoader.getPlatformClassLoader())) {
            classes.loadClass(test).getMethod("main", String[].class).invoke(null, (Object) new String[0]);
            return (String) classes.loadClass("Calls").getMethod("beyond").invoke(null);
        }
    }

    private static void remove(Path directory) throws IOException {
        List<Path> all = new ArrayList<>();
        try (Stream<Path> files = Files.walk(directory)) {
            files.sorted(Comparator.reverseOrder()).forEach(all::add);
        }
        for (Path file : all) {
            Files.delete(file);
        }
    }
}
