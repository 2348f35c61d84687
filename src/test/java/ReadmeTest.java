import java.io.ByteArrayOutputStream;
import java.io.File;
import java.io.IOException;
import java.io.PrintStream;
import java.lang.reflect.Method;
import java.lang.reflect.Modifier;
import java.net.URL;
import java.net.URLClassLoader;
import java.nio.charset.StandardCharsets;
import java.nio.file.Files;
import java.nio.file.Path;
import java.util.Comparator;
import java.util.List;
import java.util.regex.Matcher;
import java.util.regex.Pattern;
import java.util.stream.Collectors;
import java.util.stream.Stream;
import javax.tools.ToolProvider;

/** README.md: its example is a program that prints what it says, and it names every call and every test. */
public final class ReadmeTest {
    private static final Path README = Path.of("README.md");
    private static final Path TESTS = Path.of("src/test/java");

    private ReadmeTest() {
    }

    public static void main(String[] args) throws IOException, ReflectiveOperationException {
        String readme = Files.readString(README);
        example(block(readme, "java"), block(readme, "text"));
        calls(readme);
        tests(readme);
        Checks.end("ReadmeTest");
    }

    private static String block(String readme, String kind) {
        Matcher block = Pattern.compile("(?s)```" + kind + "\n(.*?)```").matcher(readme);
        boolean isThere = block.find();
        Checks.good("README.md has a block of " + kind, isThere);
        return isThere ? block.group(1) : "";
    }

    private static void example(String program, String want) throws IOException, ReflectiveOperationException {
        Path folder = Files.createTempDirectory("readme");
        try {
            Path source = Files.writeString(folder.resolve("Example.java"), program);
            int code = ToolProvider.getSystemJavaCompiler().run(null, null, null, "-Xlint:all", "-Werror",
                    "-cp", System.getProperty("java.class.path"), "-d", folder.toString(), source.toString());
            Checks.good("the example compiles without a warning", code == 0);
            if (code == 0) {
                String got = printed(folder);
                Checks.good("the example prints\n" + want + "(it prints\n" + got + ")", got.equals(want));
            }
        } finally {
            remove(folder);
        }
    }

    private static String printed(Path folder) throws IOException, ReflectiveOperationException {
        PrintStream before = System.out;
        ByteArrayOutputStream caught = new ByteArrayOutputStream();
        try (URLClassLoader loader = new URLClassLoader(new URL[] {folder.toUri().toURL()})) {
            System.setOut(new PrintStream(caught, true, StandardCharsets.UTF_8));
            Class<?> example = loader.loadClass("Example");
            example.getMethod("main", String[].class).invoke(null, (Object) new String[0]);
        } finally {
            System.setOut(before);
        }
        return caught.toString(StandardCharsets.UTF_8).replace(System.lineSeparator(), "\n");
    }

    private static void remove(Path folder) throws IOException {
        try (Stream<Path> all = Files.walk(folder)) {
            all.sorted(Comparator.reverseOrder()).map(Path::toFile).forEach(File::delete);
        }
    }

    /** The table's rows, and which of them are told to be undoable. */
    private static void calls(String readme) {
        List<String> undoable = List.of("lay", "bake", "cross", "back", "change", "join", "work", "restore");
        for (Method method : StrandLoaves.class.getDeclaredMethods()) {
            if (Modifier.isPublic(method.getModifiers())) {
                String last = undoable.contains(method.getName()) ? "yes" : "no";
                Pattern row = Pattern.compile("(?m)^\\| `" + method.getName() + "\\(([^)]*)\\)` \\| .* \\| " + last + " \\|$");
                Matcher found = row.matcher(readme);
                boolean isThere = found.find();
                Checks.good("README.md has a row of " + method.getName() + "() that ends with " + last, isThere);
                int parameters = !isThere || found.group(1).isEmpty() ? 0 : found.group(1).split(", ").length;
                Checks.due("parameters of " + method.getName() + "() in README.md", parameters, method.getParameterCount());
            }
        }
    }

    private static void tests(String readme) throws IOException {
        try (Stream<Path> files = Files.list(TESTS)) {
            List<String> names = files.map(file -> file.getFileName().toString())
                    .filter(name -> name.endsWith("Test.java"))
                    .map(name -> name.substring(0, name.length() - ".java".length())).sorted()
                    .collect(Collectors.toList());
            Checks.good("there are tests", !names.isEmpty());
            for (String name : names) {
                Checks.good("README.md names " + name, readme.contains("`" + name + "`"));
            }
        }
    }
}
