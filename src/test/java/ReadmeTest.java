import java.io.IOException;
import java.nio.charset.StandardCharsets;
import java.nio.file.Files;
import java.nio.file.Path;
import java.util.regex.Matcher;
import java.util.regex.Pattern;
import javax.tools.ToolProvider;

/** The example of README.md: it compiles, and each of its lines answers what its comment says. */
public final class ReadmeTest {
    private static final String FENCE = "```java\n";
    /** A call, with a name for its answer or without one, and the answer's first word in the comment. */
    private static final Pattern LINE =
        Pattern.compile("(?:int (\\w+) = )?(bench\\.\\w+\\(.*\\)); +// (throws \\w+|[^ ,]+).*");

    public static void main(String[] args) throws ReflectiveOperationException, IOException {
        Path root = Path.of(System.getProperty("project.root"));
        String readme = Files.readString(root.resolve("README.md"), StandardCharsets.UTF_8);
        int from = readme.indexOf(FENCE) + FENCE.length();
        run(program(readme.substring(from, readme.indexOf("```", from))));
        Check.end();
    }

    private static String program(String example) {
        StringBuilder body = new StringBuilder();
        int line = 0;
        for (String text : example.split("\n")) {
            line++;
            Matcher matcher = LINE.matcher(text);
            if (matcher.matches()) {
                String variable = matcher.group(1) == null ? "answer" + line : matcher.group(1);
                body.append(checked(variable, matcher.group(2), matcher.group(3).replace("throws ", "throws.")));
            } else {
                Check.due("line " + line + " of the example", text, "NetlistBench bench = new NetlistBench();");
                body.append(text).append('\n');
            }
        }
        return "public final class Example { public static void run() {\n" + body + "} }\n";
    }

    /** The answer has its name only where the call does not throw. */
    private static String checked(String variable, String call, String want) {
        String due = "Check.due(\"" + call + "\", String.valueOf(" + variable + "), \"" + want + "\");\n";
        return want.startsWith("throws.")
            ? "String " + variable + " = Check.outcome(() -> " + call + ");\n" + due
            : "var " + variable + " = " + call + ";\n" + due;
    }

    private static void run(String program) throws ReflectiveOperationException, IOException {
        Path classes = Path.of(System.getProperty("java.class.path"));
        Path source = classes.resolve("Example.java");
        Files.writeString(source, program, StandardCharsets.UTF_8);
        int code = ToolProvider.getSystemJavaCompiler().run(null, null, null,
            "-cp", classes.toString(), "-d", classes.toString(), source.toString());
        Check.due("the example compiles, exit code", "" + code, "0");
        if (code == 0) {
            Class.forName("Example").getMethod("run").invoke(null);
        }
    }
}
