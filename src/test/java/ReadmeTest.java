import java.io.ByteArrayOutputStream;
import java.io.File;
import java.io.IOException;
import java.io.PrintStream;
import java.lang.reflect.Method;
import java.lang.reflect.Modifier;
import java.net.URL;
import java.net.URLClassLoader;
import java.nio.file.Files;
import java.nio.file.Path;
import java.util.Comparator;
import java.util.List;
import java.util.regex.Matcher;
import java.util.regex.Pattern;
import java.util.stream.Collectors;
import java.util.stream.Stream;
import javax.tools.ToolProvider;

/** What README.md says is so. */
public final class ReadmeTest {
    private static final Check CHECK = new Check("ReadmeTest");
    private static final Path TESTS = Path.of("src/test/java");

    public static void main(String[] args) throws Exception {
        String readme = Files.readString(Path.of("README.md"));
        Path folder = Files.createTempDirectory("readme");
        try {
            CHECK.same("what the example prints", printed(block(readme, "java"), folder),
                block(readme, "text"));
        } finally {
            delete(folder);
        }
        everyCallIsNamed(readme);
        everyTestIsNamed(readme);
        everyNamedTestIsThere(readme);
        CHECK.end();
    }

    /** The first block of a kind. */
    private static String block(String readme, String kind) {
        Matcher matcher = Pattern.compile("(?s)```" + kind + "\n(.*?)```").matcher(readme);
        CHECK.due("there is a block of " + kind, matcher.find(), true);
        return matcher.group(1);
    }

    private static String printed(String program, Path folder) throws Exception {
        Path source = folder.resolve("Example.java");
        Files.writeString(source, program);
        CHECK.due("the example compiles", ToolProvider.getSystemJavaCompiler().run(null, null, null,
            "-cp", System.getProperty("java.class.path"), "-d", folder.toString(),
            source.toString()), 0);
        PrintStream out = System.out;
        ByteArrayOutputStream caught = new ByteArrayOutputStream();
        try (URLClassLoader loader = new URLClassLoader(new URL[] {folder.toUri().toURL()})) {
            System.setOut(new PrintStream(caught, true));
            loader.loadClass("Example").getMethod("main", String[].class)
                .invoke(null, (Object) new String[0]);
        } finally {
            System.setOut(out);
        }
        return caught.toString().replace(System.lineSeparator(), "\n");
    }

    private static void everyCallIsNamed(String readme) {
        for (Method method : RailYard.class.getDeclaredMethods()) {
            if (Modifier.isPublic(method.getModifiers())) {
                CHECK.due(method.getName() + " is named",
                    readme.contains("`" + method.getName() + "`"), true);
            }
        }
    }

    private static void everyTestIsNamed(String readme) {
        String[] names = TESTS.toFile().list((folder, name) -> name.endsWith("Test.java"));
        CHECK.due("tests were found", names != null && names.length > 0, true);
        for (String name : names) {
            String row = "\n| `" + name.replace(".java", "") + "` |";
            CHECK.due(name + " has a row", readme.contains(row), true);
        }
    }

    private static void everyNamedTestIsThere(String readme) {
        Matcher matcher = Pattern.compile("\\b(\\w+Test)\\b").matcher(readme);
        while (matcher.find()) {
            File file = TESTS.resolve(matcher.group(1) + ".java").toFile();
            CHECK.due(matcher.group(1) + " is there", file.isFile(), true);
        }
    }

    private static void delete(Path folder) throws IOException {
        List<Path> all;
        try (Stream<Path> walk = Files.walk(folder)) {
            all = walk.sorted(Comparator.reverseOrder()).collect(Collectors.toList());
        }
        for (Path one : all) {
            Files.delete(one);
        }
    }
}
