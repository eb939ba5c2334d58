import java.io.IOException;
import java.net.URL;
import java.net.URLClassLoader;
import java.nio.file.Files;
import java.nio.file.Path;
import java.util.ArrayList;
import java.util.List;
import java.util.regex.Matcher;
import java.util.regex.Pattern;
import javax.tools.ToolProvider;

/** The example in README.md is compiled and run: it answers what the comments behind its lines begin with. */
public final class ReadmeTest {
    private static final Path README = Path.of("README.md");
    private static final Pattern EXAMPLE = Pattern.compile("(?s)```java\n(.*?)```");
    private static final Pattern TOLD = Pattern.compile("\\s*(?:int|String) (\\w+) = .*; +// (\\d[^ ;,]*).*");

    private ReadmeTest() {
    }

    public static void main(String[] args) throws IOException, ReflectiveOperationException {
        Matcher example = EXAMPLE.matcher(Files.readString(README));
        Check.yes("there is an example", example.find());
        List<String> want = new ArrayList<>();
        String source = sourceOf(example.group(1), want);
        Check.yes("the example tells answers", want.size() >= 6);
        Check.same("answers", want.toString(), answers(source).toString());
        Check.finish("ReadmeTest");
    }

    /** Puts behind each line that tells an answer one that keeps it. */
    private static String sourceOf(String example, List<String> want) {
        StringBuilder source = new StringBuilder("public class Example {\n"
                + "public static java.util.List<String> answers() {\n"
                + "java.util.List<String> answers = new java.util.ArrayList<>();\n");
        for (String line : example.split("\n")) {
            source.append(line).append('\n');
            Matcher told = TOLD.matcher(line);
            if (told.matches()) {
                want.add(told.group(1) + " " + told.group(2));
                source.append("answers.add(\"").append(told.group(1)).append(" \" + ")
                        .append(told.group(1)).append(");\n");
            }
        }
        return source.append("return answers;\n}\n}\n").toString();
    }

    private static Object answers(String source) throws IOException, ReflectiveOperationException {
        Path place = Files.createTempDirectory("readme");
        Path file = place.resolve("Example.java");
        Path compiled = place.resolve("Example.class");
        try {
            Files.writeString(file, source);
            int code = ToolProvider.getSystemJavaCompiler().run(null, null, null, "-cp",
                    System.getProperty("java.class.path"), "-d", place.toString(), file.toString());
            Check.same("the example compiles", 0, code);
            if (code != 0) {
                return "none";
            }
            try (URLClassLoader loader = new URLClassLoader(new URL[] {place.toUri().toURL()})) {
                return loader.loadClass("Example").getMethod("answers").invoke(null);
            }
        } finally {
            Files.deleteIfExists(compiled);
            Files.deleteIfExists(file);
            Files.deleteIfExists(place);
        }
    }
}
