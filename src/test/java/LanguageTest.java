import java.io.IOException;
import java.nio.file.Files;
import java.nio.file.Path;
import java.util.List;
import java.util.regex.Matcher;
import java.util.regex.Pattern;

/** Rules of LANGUAGE.md that can be seen in the program's text. Run it where src/ is. */
public final class LanguageTest {
    private static final Check CHECK = new Check();
    private static final Path PROGRAM = Path.of("src/main/java/ColdLine.java");
    private static final int LONGEST_METHOD = 60;

    public static void main(String[] args) throws IOException {
        String program = Files.readString(PROGRAM);
        String code = program.replaceAll("(?s)/\\*.*?\\*/", "").replaceAll("//[^\n]*", "");
        for (String word : List.of("throw", "throws", "try", "catch", "synchronized", "assert", "package", "protected",
                "equals", "hashCode", "toString", "System.out", "Random", "Thread", "Object", "var")) {
            CHECK.so("no " + word, !Pattern.compile("\\b" + Pattern.quote(word) + "\\b").matcher(code).find());
        }
        CHECK.so("no lambda", !code.contains("->"));
        CHECK.so("no method reference", !code.contains("::"));
        CHECK.so("no annotation", !code.contains("@"));
        CHECK.so("no exact arithmetic", !code.contains("Exact("));
        CHECK.so("signs 1 to 127 alone", program.chars().allMatch(c -> c > 0 && c < 128));
        imports(code);
        staticFields(code);
        parameters(code);
        lengths(program);
        CHECK.end();
    }

    private static void imports(String code) {
        Matcher matcher = Pattern.compile("import ([^;]*);").matcher(code);
        while (matcher.find()) {
            CHECK.so("import of " + matcher.group(1),
                    List.of("java.util.Arrays", "java.util.ArrayList", "java.util.List").contains(matcher.group(1)));
        }
    }

    private static void staticFields(String code) {
        Matcher matcher = Pattern.compile("(?m)^.*\\bstatic\\b[^({]*=").matcher(code);
        while (matcher.find()) {
            CHECK.so("final: " + matcher.group(), matcher.group().contains("final"));
        }
        CHECK.so("no static block", !Pattern.compile("static\\s*\\{").matcher(code).find());
    }

    private static void parameters(String code) {
        Matcher matcher = Pattern.compile("(?m)^ {4,8}[a-zA-Z][^=;(]*\\(([^)]*)\\) \\{").matcher(code);
        while (matcher.find()) {
            CHECK.so("seven parameters at most: " + matcher.group(), matcher.group(1).split(",").length <= 7);
        }
    }

    /** A method begins with a line that ends in "{" at its class's depth, and ends with "}" there. */
    private static void lengths(String program) {
        int began = -1;
        String indent = "";
        List<String> lines = program.lines().toList();
        for (int i = 0; i < lines.size(); i++) {
            String line = lines.get(i);
            boolean begins = line.matches(" {4,8}[a-zA-Z].*\\) \\{") && !line.matches(" *(if|for|while|switch).*");
            if (began < 0 && begins) {
                began = i;
                indent = line.substring(0, line.length() - line.stripLeading().length());
            } else if (began >= 0 && line.equals(indent + "}")) {
                CHECK.so("short: " + lines.get(began), i - began < LONGEST_METHOD);
                began = -1;
            }
        }
    }
}
