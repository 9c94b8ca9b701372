import java.io.IOException;
import java.net.URL;
import java.net.URLClassLoader;
import java.nio.file.Files;
import java.nio.file.Path;
import java.util.List;
import java.util.regex.Matcher;
import java.util.regex.Pattern;
import javax.tools.ToolProvider;

/** The example in README.md: it compiles, and each call in it answers what stands behind it. */
public final class ReadmeTest {
    private static final Pattern ANSWER =
            Pattern.compile("\\s*(?:int|long|double) (\\w+) = (.+); +// ([-0-9.]+): .*");

    private static int answers = 0;

    private static String program(String readme) {
        int start = readme.indexOf("```java\n");
        int end = readme.indexOf("```\n", start + 3);
        if (start < 0 || end < 0) {
            throw new IllegalStateException("README.md has no example");
        }
        StringBuilder program = new StringBuilder("public final class Example {\n");
        program.append("static int wrong = 0;\n");
        program.append("static void due(String call, double got, double want) {\n");
        program.append("if (got != want) { wrong++; System.out.println(call + \" answered \" + got); } }\n");
        program.append("public static int tryAll() {\n");
        for (String line : readme.substring(start + 8, end).split("\n")) {
            program.append(line).append('\n');
            Matcher matcher = ANSWER.matcher(line);
            if (matcher.matches()) {
                answers++;
                program.append("due(\"").append(matcher.group(2)).append("\", ").append(matcher.group(1));
                program.append(", ").append(matcher.group(3)).append(");\n");
            }
        }
        return program.append("return wrong;\n}\n}\n").toString();
    }

    private static int wrongIn(Path directory) throws IOException, ReflectiveOperationException {
        Path source = directory.resolve("Example.java");
        Files.writeString(source, program(Files.readString(Path.of("README.md"))));
        int failed = ToolProvider.getSystemJavaCompiler().run(null, null, null,
                "-cp", System.getProperty("java.class.path"), "-d", directory.toString(), source.toString());
        if (failed != 0) {
            return failed;
        }
        try (URLClassLoader loader = new URLClassLoader(new URL[] {directory.toUri().toURL()})) {
            return (int) loader.loadClass("Example").getMethod("tryAll").invoke(null);
        }
    }

    public static void main(String[] args) throws IOException, ReflectiveOperationException {
        Path directory = Files.createTempDirectory("readme");
        int failed;
        try {
            failed = wrongIn(directory);
        } finally {
            for (String name : List.of("Example.java", "Example.class", "")) {
                Files.deleteIfExists(directory.resolve(name));
            }
        }
        if (failed != 0 || answers < 20) {
            System.out.println("the example of README.md does not hold");
            System.exit(1);
        }
        System.out.println("the example of README.md holds, " + answers + " answers");
    }
}
