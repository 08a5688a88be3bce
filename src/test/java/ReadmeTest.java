import java.io.ByteArrayOutputStream;
import java.io.IOException;
import java.io.PrintStream;
import java.lang.reflect.Method;
import java.lang.reflect.Modifier;
import java.net.URL;
import java.net.URLClassLoader;
import java.nio.charset.StandardCharsets;
import java.nio.file.DirectoryStream;
import java.nio.file.Files;
import java.nio.file.Path;
import java.util.Comparator;
import java.util.List;
import java.util.regex.Matcher;
import java.util.regex.Pattern;
import java.util.stream.Stream;
import javax.tools.ToolProvider;

/** README.md is there, its example compiles together with the class and answers as it says, and nothing is left out. */
public final class ReadmeTest {
    private static final Path README = Path.of("README.md");
    private static final Path SOURCE = Path.of("src/main/java/RackTrain.java");
    private static final Path TESTS = Path.of("src/test/java");
    private static final String EXAMPLE = "Example";

    public static void main(String[] args) throws Exception {
        Check.due("README.md is there", Files.isRegularFile(README), true);
        if (Files.isRegularFile(README)) {
            String readme = Files.readString(README);
            example(readme);
            calls(readme);
            tests(readme);
        }
        Check.end();
    }

    /** What stands between the lines ```kind and ```, which must be there once. */
    private static String block(String readme, String kind) {
        Matcher m = Pattern.compile("(?ms)^```" + kind + "\n(.*?)^```$").matcher(readme);
        String found = m.find() ? m.group(1) : "";
        Check.due("README.md has a block of " + kind, !found.isEmpty(), true);
        Check.due("README.md has one more block of " + kind, m.find(), false);
        return found;
    }

    private static void example(String readme) throws Exception {
        String due = block(readme, "text");
        Path work = Files.createTempDirectory("readme");
        try {
            Path file = Files.writeString(work.resolve(EXAMPLE + ".java"), block(readme, "java"));
            if (compiled(work, file)) {
                Check.same("what the example answers", answers(work), due);
            }
        } finally {
            remove(work);
        }
    }

    private static boolean compiled(Path work, Path file) {
        ByteArrayOutputStream told = new ByteArrayOutputStream();
        int code = ToolProvider.getSystemJavaCompiler().run(null, told, told, "-proc:none", "-Xlint:all", "-Werror",
                "-d", work.toString(), SOURCE.toString(), file.toString());
        Check.same("what the compiler says of the example", told.toString(StandardCharsets.UTF_8), "");
        Check.due("the example compiles", code, 0);
        return code == 0;
    }

    /** What the example's main prints, with the class that was compiled beside it. */
    private static String answers(Path work) throws Exception {
        ByteArrayOutputStream told = new ByteArrayOutputStream();
        PrintStream usual = System.out;
        try (URLClassLoader loader = new URLClassLoader(new URL[] {work.toUri().toURL()}, null)) {
            System.setOut(new PrintStream(told, true, StandardCharsets.UTF_8));
            loader.loadClass(EXAMPLE).getMethod("main", String[].class).invoke(null, (Object) new String[0]);
        } finally {
            System.setOut(usual);
        }
        return told.toString(StandardCharsets.UTF_8).replace(System.lineSeparator(), "\n");
    }

    private static void remove(Path work) throws IOException {
        try (Stream<Path> all = Files.walk(work)) {
            for (Path path : all.sorted(Comparator.reverseOrder()).toList()) {
                Files.delete(path);
            }
        }
    }

    private static void calls(String readme) {
        for (Method method : RackTrain.class.getDeclaredMethods()) {
            if (Modifier.isPublic(method.getModifiers())) {
                Check.due("README.md names " + method.getName(), readme.contains("`" + method.getName() + "`"), true);
            }
        }
    }

    private static void tests(String readme) throws IOException {
        for (String name : List.of(".ci/run", "../shared/tests", "../shared/DOC.md", "../shared/LANGUAGE.md")) {
            Check.due("README.md names " + name, readme.contains(name), true);
        }
        Check.due(".ci/run can be started", Files.isExecutable(Path.of(".ci/run")), true);
        try (DirectoryStream<Path> files = Files.newDirectoryStream(TESTS, "*Test.java")) {
            for (Path file : files) {
                String name = file.getFileName().toString().replace(".java", "");
                Check.due("README.md names " + name, readme.contains("- `" + name), true);
            }
        }
    }
}
