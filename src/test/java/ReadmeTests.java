import java.io.IOException;
import java.lang.reflect.Method;
import java.net.URL;
import java.net.URLClassLoader;
import java.nio.file.Files;
import java.nio.file.Path;
import java.util.regex.Matcher;
import java.util.regex.Pattern;
import java.util.stream.Stream;
import javax.tools.ToolProvider;

/** The example of README.md is compiled and run: each call answers what its comment says. */
public final class ReadmeTests extends RoomChecks {
    private static final Pattern ANSWERED = Pattern.compile("(?:int (\\w+) = )?(.*); *// (-?[0-9]+|[A-Z_]+):.*");
    private static final int LEAST_ANSWERS = 15;

    private ReadmeTests() {
    }

    public static void main(String[] args) throws Exception {
        Path folder = Files.createTempDirectory("readme");
        try {
            run(folder);
        } finally {
            delete(folder);
        }
        CHECKS.end("ReadmeTests");
    }

    /** What the compiled example calls. */
    public static void answered(String call, int got, int want) {
        due("README: " + call, got, want);
    }

    private static void run(Path folder) throws Exception {
        Path source = folder.resolve("Example.java");
        Files.writeString(source, source(Files.readString(Path.of("README.md"))));
        String classes = System.getProperty("java.class.path");
        int compiled = ToolProvider.getSystemJavaCompiler()
            .run(null, null, null, "-cp", classes, "-d", folder.toString(), source.toString());
        due("README: the example is compiled", compiled, 0);
        if (compiled == 0) {
            try (URLClassLoader loader = new URLClassLoader(new URL[] {folder.toUri().toURL()})) {
                Method example = loader.loadClass("Example").getMethod("run");
                example.invoke(null);
            }
        }
    }

    /** The Java lines of the README, with a look at each answer that a comment tells. */
    private static String source(String readme) {
        StringBuilder source = new StringBuilder("public class Example {\npublic static void run() {\n");
        int answers = 0;
        String example = readme.split("```java\n")[1].split("```")[0];
        for (String line : example.split("\n")) {
            Matcher answered = ANSWERED.matcher(line);
            if (answered.matches()) {
                answers++;
                source.append(look(answered));
            } else {
                source.append(line).append('\n');
            }
        }
        CHECKS.holds("README: the example tells answers", answers >= LEAST_ANSWERS);
        return source.append("}\n}\n").toString();
    }

    private static String look(Matcher answered) {
        String name = answered.group(1);
        String call = answered.group(2);
        String due = answered.group(3).matches("-?[0-9]+") ? answered.group(3) : "PrintRoom." + answered.group(3);
        String look = "ReadmeTests.answered(\"" + call + "\", " + (name == null ? call : name) + ", " + due + ");\n";
        return name == null ? look : "int " + name + " = " + call + ";\n" + look;
    }

    private static void delete(Path folder) throws IOException {
        try (Stream<Path> files = Files.list(folder)) {
            for (Path file : files.toList()) {
                Files.delete(file);
            }
        }
        Files.delete(folder);
    }
}
