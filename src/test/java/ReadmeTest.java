import java.io.ByteArrayOutputStream;
import java.io.IOException;
import java.io.PrintStream;
import java.lang.reflect.Method;
import java.lang.reflect.Modifier;
import java.net.URL;
import java.net.URLClassLoader;
import java.nio.file.Files;
import java.nio.file.Path;
import java.util.Comparator;
import java.util.Set;
import java.util.TreeSet;
import java.util.regex.Matcher;
import java.util.regex.Pattern;
import java.util.stream.Stream;
import javax.tools.ToolProvider;

/** README.md says what is so: its program prints what stands behind it, its tables name every call and every test. */
public final class ReadmeTest {
    private static final Due due = new Due("ReadmeTest");

    public static void main(String[] args) throws Exception {
        String readme = Files.readString(Path.of("README.md"));
        String printed = outputOf(block(readme, "java"));
        due.isTrue("the program prints what README.md says, not:\n" + printed, printed.equals(block(readme, "text")));
        theCalls(readme);
        theTests(readme);
        due.end();
    }

    private static String block(String readme, String kind) {
        Matcher block = Pattern.compile("(?s)\n```" + kind + "\n(.*?)```\n").matcher(readme);
        boolean found = block.find();
        due.isTrue("README.md has a block of " + kind, found);
        return found ? block.group(1) : "";
    }

    private static String outputOf(String program) throws Exception {
        Path place = Files.createTempDirectory("readme");
        try {
            Path file = Files.writeString(place.resolve("Example.java"), program);
            int status = ToolProvider.getSystemJavaCompiler().run(null, null, null,
                "-cp", System.getProperty("java.class.path"), "-d", place.toString(), file.toString());
            due.is("javac Example.java", status, 0);
            return status == 0 ? run(place) : "";
        } finally {
            removeAll(place);
        }
    }

    private static String run(Path place) throws Exception {
        ByteArrayOutputStream printed = new ByteArrayOutputStream();
        PrintStream before = System.out;
        try (URLClassLoader loader = new URLClassLoader(new URL[] {place.toUri().toURL()})) {
            System.setOut(new PrintStream(printed, true));
            loader.loadClass("Example").getMethod("main", String[].class).invoke(null, (Object) new String[0]);
        } finally {
            System.setOut(before);
        }
        return printed.toString().replace(System.lineSeparator(), "\n");
    }

    private static void removeAll(Path place) throws IOException {
        try (Stream<Path> files = Files.walk(place)) {
            for (Path file : files.sorted(Comparator.reverseOrder()).toList()) {
                Files.delete(file);
            }
        }
    }

    private static void theCalls(String readme) {
        Set<String> calls = new TreeSet<>();
        for (Method method : FloodBus.class.getDeclaredMethods()) {
            if (Modifier.isPublic(method.getModifiers())) {
                calls.add(method.getName());
            }
        }
        Matcher table = Pattern.compile("(?s)\n\\| for \\| calls \\|\n(.*?)\n\n").matcher(readme);
        Set<String> named = table.find() ? namesIn(table.group(1)) : new TreeSet<>();
        due.isTrue("README.md names the calls " + calls + ", not " + named, named.equals(calls));
    }

    private static Set<String> namesIn(String text) {
        Set<String> names = new TreeSet<>();
        Matcher name = Pattern.compile("`(\\w+)`").matcher(text);
        while (name.find()) {
            names.add(name.group(1));
        }
        return names;
    }

    private static void theTests(String readme) throws IOException {
        Set<String> tests = new TreeSet<>();
        try (Stream<Path> files = Files.list(Path.of("src/test/java"))) {
            for (Path file : files.toList()) {
                String name = file.getFileName().toString();
                if (name.endsWith("Test.java")) {
                    tests.add(name.replace(".java", ""));
                }
            }
        }
        Set<String> rows = new TreeSet<>();
        Matcher row = Pattern.compile("\n\\| `(\\w+Test)` \\|").matcher(readme);
        while (row.find()) {
            rows.add(row.group(1));
        }
        due.isTrue("README.md tells of the tests " + tests + ", not " + rows, rows.equals(tests));
    }
}
