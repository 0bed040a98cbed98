import java.io.IOException;
import java.io.PrintWriter;
import java.io.StringWriter;
import java.lang.reflect.Method;
import java.lang.reflect.Modifier;
import java.net.URL;
import java.net.URLClassLoader;
import java.nio.file.Files;
import java.nio.file.Path;
import java.util.ArrayList;
import java.util.List;
import java.util.TreeSet;
import java.util.regex.Matcher;
import java.util.regex.Pattern;
import java.util.spi.ToolProvider;

/** The examples of README.md, compiled and run as they stand there: each call answers the number behind it. */
public final class ReadmeTests {
    private static final Pattern BLOCK = Pattern.compile("(?ms)^```java\n(.*?)^```$");
    private static final Pattern ASKED = Pattern.compile("((?:book\\.|read\\().*\\));\\s+// (-?\\d+)(?:: .+)?");
    private static final Pattern CALL = Pattern.compile("book\\.(\\w+)\\(");
    private static final Check CHECK = new Check();

    private final List<String> helpers = new ArrayList<>();
    private final List<String> examples = new ArrayList<>();
    private final TreeSet<String> called = new TreeSet<>();
    private final TreeSet<String> answers = new TreeSet<>();

    public static void main(String[] args) throws IOException, ReflectiveOperationException {
        CHECK.about("README.md");
        ReadmeTests test = new ReadmeTests();
        test.take(Files.readString(Path.of(System.getProperty("project.root", "."), "README.md")));
        test.run();
        CHECK.end();
    }

    /** To be called by the compiled examples. */
    public static void due(String call, long got, long want) {
        CHECK.due(call, got, want);
    }

    private void take(String page) {
        Matcher block = BLOCK.matcher(page);
        while (block.find()) {
            for (String line : block.group(1).split("\n")) {
                if (block.group(1).startsWith("static")) {
                    helpers.add(line);
                } else {
                    takeExample(line);
                }
            }
        }
        for (Method method : MinuteBook.class.getDeclaredMethods()) {
            CHECK.holds("an example of " + method.getName(),
                called.contains(method.getName()) || !Modifier.isPublic(method.getModifiers()));
        }
        for (String code : new String[] {"-2", "-3", "-4", "-5", "-6", "-7", "-11", "-12", "-33", "-99000002"}) {
            CHECK.holds("an example of the code " + code, answers.contains(code));
        }
    }

    private void takeExample(String line) {
        Matcher asked = ASKED.matcher(line);
        if (asked.matches()) {
            Matcher call = CALL.matcher(asked.group(1));
            while (call.find()) {
                called.add(call.group(1));
            }
            answers.add(asked.group(2));
            examples.add("ReadmeTests.due(\"" + asked.group(1).replace("\"", "\\\"") + "\", " + asked.group(1) + ", " + asked.group(2) + "L);");
        } else {
            CHECK.holds("no answer that isn't looked at: " + line, !line.contains("//") && !CALL.matcher(line).find());
            examples.add(line);
        }
    }

    private void run() throws IOException, ReflectiveOperationException {
        Path place = Files.createTempDirectory("readme");
        Path source = place.resolve("ReadmeExamples.java");
        Files.writeString(source, "public final class ReadmeExamples {\n" + String.join("\n", helpers)
            + "\npublic static void run() {\n" + String.join("\n", examples) + "\n}\n}\n");
        StringWriter said = new StringWriter();
        PrintWriter out = new PrintWriter(said);
        int code = ToolProvider.findFirst("javac").orElseThrow().run(out, out, "-encoding", "UTF-8", "-cp",
            System.getProperty("java.class.path"), "-d", place.toString(), source.toString());
        CHECK.due("javac: " + said, code, 0);
        if (code == 0) {
            try (URLClassLoader loader = new URLClassLoader(new URL[] {place.toUri().toURL()})) {
                loader.loadClass("ReadmeExamples").getMethod("run").invoke(null);
            }
            Files.delete(place.resolve("ReadmeExamples.class"));
        }
        Files.delete(source);
        Files.delete(place);
    }
}
