import java.io.ByteArrayOutputStream;
import java.io.IOException;
import java.io.PrintStream;
import java.lang.reflect.Field;
import java.lang.reflect.Method;
import java.lang.reflect.Modifier;
import java.net.URL;
import java.net.URLClassLoader;
import java.nio.charset.StandardCharsets;
import java.nio.file.Files;
import java.nio.file.Path;
import java.util.Comparator;
import java.util.List;
import java.util.regex.Matcher;
import java.util.regex.Pattern;
import java.util.stream.Stream;
import javax.tools.ToolProvider;

/** README.md tells every call and constant, and its example runs as it stands there. */
public final class ReadmeTest {
    private static final Check CHECK = new Check();

    public static void main(String[] args) throws IOException, ReflectiveOperationException {
        String readme = Files.readString(Path.of("README.md"));
        calls(readme);
        constants(readme);
        tests(readme);
        Path folder = Files.createTempDirectory("readme");
        try {
            String printed = printedBy(blockOf(readme, "java"), folder);
            CHECK.so("the example prints what is told:\n" + printed, printed.equals(blockOf(readme, "text")));
        } finally {
            remove(folder);
        }
        CHECK.end();
    }

    private static void calls(String readme) {
        for (Method method : ColdLine.class.getDeclaredMethods()) {
            if (Modifier.isPublic(method.getModifiers())) {
                Matcher told = Pattern.compile("(?m)^\\| `" + method.getName() + "\\(([^)]*)\\)` \\|").matcher(readme);
                CHECK.so(method.getName() + " is told", told.find());
                int parameters = told.group(1).isEmpty() ? 0 : told.group(1).split(", ").length;
                CHECK.due("parameters of " + method.getName(), parameters, method.getParameterCount());
                CHECK.so(method.getName() + " is told once", !told.find());
            }
        }
    }

    private static void constants(String readme) throws IllegalAccessException {
        for (Field field : ColdLine.class.getFields()) {
            int value = field.getInt(null);
            boolean isTold = readme.contains("| " + value + " | `" + field.getName() + "` |")
                    || readme.contains("`" + field.getName() + "` (" + value + ")");
            CHECK.so(field.getName() + " is told", isTold);
        }
    }

    private static void tests(String readme) throws IOException {
        try (Stream<Path> files = Files.list(Path.of("src/test/java"))) {
            for (Path file : (Iterable<Path>) files::iterator) {
                String name = file.getFileName().toString().replace(".java", "");
                CHECK.so(name + " is told", !name.endsWith("Test") || readme.contains(name));
            }
        }
    }

    /** The first block of a language on the page. */
    private static String blockOf(String readme, String language) {
        Matcher block = Pattern.compile("(?s)\n```" + language + "\n(.*?)```").matcher(readme);
        boolean isThere = block.find();
        CHECK.so("a block of " + language, isThere);
        return isThere ? block.group(1) : "";
    }

    private static String printedBy(String program, Path folder) throws IOException, ReflectiveOperationException {
        Path file = folder.resolve("Example.java");
        Files.writeString(file, program);
        List<String> words = List.of("-cp", System.getProperty("java.class.path"), "-d", folder.toString(), file.toString());
        int exit = ToolProvider.getSystemJavaCompiler().run(null, null, null, words.toArray(new String[0]));
        CHECK.due("javac", exit, 0);
        PrintStream usual = System.out;
        ByteArrayOutputStream printed = new ByteArrayOutputStream();
        try (URLClassLoader loader = new URLClassLoader(new URL[] {folder.toUri().toURL()})) {
            System.setOut(new PrintStream(printed, true, StandardCharsets.UTF_8));
            loader.loadClass("Example").getMethod("main", String[].class).invoke(null, (Object) new String[0]);
        } finally {
            System.setOut(usual);
        }
        return printed.toString(StandardCharsets.UTF_8).replace(System.lineSeparator(), "\n");
    }

    private static void remove(Path folder) throws IOException {
        try (Stream<Path> all = Files.walk(folder)) {
            for (Path path : (Iterable<Path>) all.sorted(Comparator.reverseOrder())::iterator) {
                Files.delete(path);
            }
        }
    }
}
