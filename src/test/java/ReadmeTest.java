import java.io.File;
import java.net.URL;
import java.net.URLClassLoader;
import java.nio.charset.StandardCharsets;
import java.nio.file.Files;
import java.nio.file.Path;
import java.util.Comparator;
import java.util.regex.Matcher;
import java.util.regex.Pattern;
import java.util.stream.Stream;

/** README.md's examples: each call answers the number that stands behind it, and each call of the face is named. */
public final class ReadmeTest {
    private static int wrong = 0;
    private static int asked = 0;

    /** The examples call this. */
    public static void due(String call, long got, long want) {
        asked++;
        if (got != want) {
            wrong++;
            System.out.println("README.md: " + call + " answered " + got + ", it says " + want);
        }
    }

    private static String example(String block) {
        if (block.startsWith("static ")) {
            return block;
        }
        Matcher m = Pattern.compile("(?m)^(.*\\));\\s*// (-?\\d+).*$").matcher(block);
        StringBuilder code = new StringBuilder("static void example" + Math.abs(block.hashCode()) + "() {\n");
        while (m.find()) {
            String call = m.group(1);
            m.appendReplacement(code, Matcher.quoteReplacement(
                "ReadmeTest.due(\"" + call.replace("\"", "\\\"") + "\", " + call + ", " + m.group(2) + "L);"));
        }
        m.appendTail(code);
        return code + "}\n";
    }

    private static String examples(String readme) {
        StringBuilder code = new StringBuilder("public final class Examples {\n");
        StringBuilder all = new StringBuilder("public static void all() {\n");
        Matcher m = Pattern.compile("(?s)```java\n(.*?)```").matcher(readme);
        while (m.find()) {
            String example = example(m.group(1));
            code.append(example);
            Matcher name = Pattern.compile("void (example\\d+)\\(\\)").matcher(example);
            if (name.find()) {
                all.append(name.group(1)).append("();\n");
            }
        }
        return code.append(all).append("}\n}\n").toString();
    }

    private static void runExamples(String code) throws Exception {
        Path out = Files.createTempDirectory("readme");
        try {
            Path source = out.resolve("Examples.java");
            Files.write(source, code.getBytes(StandardCharsets.UTF_8));
            Process javac = new ProcessBuilder("javac", "-cp", System.getProperty("java.class.path"), "-d", out.toString(), source.toString())
                .inheritIO().start();
            if (javac.waitFor() != 0) {
                wrong++;
                System.out.println("README.md: the examples are not Java:\n" + code);
                return;
            }
            try (URLClassLoader loader = new URLClassLoader(new URL[] {out.toUri().toURL()}, ReadmeTest.class.getClassLoader())) {
                loader.loadClass("Examples").getMethod("all").invoke(null);
            }
        } finally {
            try (Stream<Path> files = Files.walk(out)) {
                files.sorted(Comparator.reverseOrder()).map(Path::toFile).forEach(File::delete);
            }
        }
    }

    public static void main(String[] args) throws Exception {
        String readme = new String(Files.readAllBytes(Path.of("README.md")), StandardCharsets.UTF_8);
        runExamples(examples(readme));
        Matcher m = Pattern.compile("    public (?:int|long) (\\w+)\\(").matcher(
            new String(Files.readAllBytes(Path.of("../shared/DOC.md")), StandardCharsets.UTF_8));
        while (m.find()) {
            if (!readme.contains("`" + m.group(1) + "`")) {
                wrong++;
                System.out.println("README.md doesn't name " + m.group(1));
            }
        }
        if (asked == 0) {
            wrong++;
            System.out.println("README.md has no examples");
        }
        System.out.println(wrong == 0 ? asked + " calls of README.md answer as it says" : wrong + " faults of README.md");
        if (wrong != 0) {
            System.exit(1);
        }
    }
}
